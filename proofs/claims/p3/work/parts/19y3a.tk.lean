/-! what life leaves alone on the side of the class: printed by genF.py -/
def cDy (c k : Nat) : Nat := if c = 26 then 200 + k else if c = 53 then 230 + k else if c = 4 then 260 + k else if c = 5 then 270 + k else c
theorem fy_X11_has (a0 : Int32) (a1 : Int32) (s : Sg) : PQ (f_X11_has a0 a1 s) (fun _ s9 => Fr cDy 0 s s9) := by
  have hJ : Fr cDy 0 s s := fr_r
  unfold f_X11_has
  refine pq_if (fun _ => ?_) (fun _ => ?_)
  · exact pq_s hJ
  · exact pq_s hJ

theorem fy_X4_isGone (a1 : Int32) (s : Sg) : PQ (f_X4_isGone a1 s) (fun _ s9 => Fr cDy 0 s s9) := by
  have hJ : Fr cDy 0 s s := fr_r
  unfold f_X4_isGone
  refine pq_if (fun _ => ?_) (fun _ => ?_)
  · exact pq_s hJ
  · exact pq_s hJ

theorem fy_X2_lying (a1 : Int32) (s : Sg) : PQ (f_X2_lying a1 s) (fun _ s9 => Fr cDy 0 s s9) := by
  have hJ : Fr cDy 0 s s := fr_r
  unfold f_X2_lying
  refine pq_c (fun _ => ?_)
  exact pq_s hJ

theorem fy_X2_inSight (a1 : Int32) (s : Sg) : PQ (f_X2_inSight a1 s) (fun _ s9 => Fr cDy 0 s s9) := by
  have hJ : Fr cDy 0 s s := fr_r
  unfold f_X2_inSight
  refine pq_c (fun _ => ?_)
  refine pq_if (fun _ => ?_) (fun _ => ?_)
  · refine pq_b (fy_X2_lying _ _) (fun _ s3 gs3 => ?_)
    have js3 := fr_t hJ gs3 rfl
    exact pq_s js3
  · exact pq_s hJ

theorem fy_X4_isAt (a1 : Int32) (a2 : Int32) (s : Sg) : PQ (f_X4_isAt a1 a2 s) (fun _ s9 => Fr cDy 0 s s9) := by
  have hJ : Fr cDy 0 s s := fr_r
  unfold f_X4_isAt
  refine pq_c (fun _ => ?_)
  refine pq_if (fun _ => ?_) (fun _ => ?_)
  · exact pq_s hJ
  · exact pq_s hJ

theorem fy_X4_allQuarrels  (s : Sg) : PQ (f_X4_allQuarrels  s) (fun _ s9 => Fr cDy 0 s s9) := by
  have hJ : Fr cDy 0 s s := fr_r
  unfold f_X4_allQuarrels
  exact pq_s hJ

theorem fy_X9_contentAt_25_b71 {s0 : Sg} (k_35 : Int32 → Int32 → Int32 → Int32 → Int32 → Sg → Option (Int32 × Sg)) (hk_35 : ∀ (v1 : Int32) (v3 : Int32) (v4 : Int32) (v5 : Int32) (v6 : Int32) (s : Sg), Fr cDy 0 s0 s → PQ (k_35 v1 v3 v4 v5 v6 s) (fun _ s9 => Fr cDy 0 s0 s9)) (v1 : Int32) (v3 : Int32) (v4 : Int32) (v5 : Int32) (v6 : Int32) (t0 : Int32) (s : Sg) (hJ : Fr cDy 0 s0 s) : PQ (f_X9_contentAt_25_b71 k_35 v1 v3 v4 v5 v6 t0 s) (fun _ s9 => Fr cDy 0 s0 s9) := by
  unfold f_X9_contentAt_25_b71
  refine pq_if (fun _ => ?_) (fun _ => ?_)
  · refine pq_n (fun x5 _ => ?_)
    exact hk_35 _ _ _ _ _ _ hJ
  · refine pq_n (fun x6 _ => ?_)
    refine pq_n (fun x7 _ => ?_)
    exact hk_35 _ _ _ _ _ _ hJ
theorem fy_X9_contentAt_25_b35 {s0 : Sg} (n : Nat) : ∀ (v1 : Int32) (v3 : Int32) (v4 : Int32) (v5 : Int32) (v6 : Int32) (s : Sg), Fr cDy 0 s0 s → PQ (f_X9_contentAt_25_b35 n v1 v3 v4 v5 v6 s) (fun _ s9 => Fr cDy 0 s0 s9) := by
  induction n with
  | zero => intro v1 v3 v4 v5 v6 s _ r s9 e; cases e
  | succ n ih =>
    intro v1 v3 v4 v5 v6 s hJ
    unfold f_X9_contentAt_25_b35
    refine pq_if (fun _ => ?_) (fun _ => ?_)
    · exact pq_s hJ
    · refine pq_b (fy_X4_isAt _ _ _) (fun _ s4 gs4 => ?_)
      have js4 := fr_t hJ gs4 rfl
      refine pq_if (fun _ => ?_) (fun _ => ?_)
      · exact ih _ _ _ _ _ _ js4
      · refine pq_if (fun _ => ?_) (fun _ => ?_)
        · exact fy_X9_contentAt_25_b71 _ ih _ _ _ _ _ _ _ js4
        · refine pq_c (fun _ => ?_)
          exact fy_X9_contentAt_25_b71 _ ih _ _ _ _ _ _ _ js4
theorem fy_X9_contentAt_25 (a1 : Int32) (a2 : Int32) (a3 : Int32) (s : Sg) : PQ (f_X9_contentAt_25 a1 a2 a3 s) (fun _ s9 => Fr cDy 0 s s9) := by
  have hJ : Fr cDy 0 s s := fr_r
  unfold f_X9_contentAt_25
  refine pq_b (fy_X4_isGone _ _) (fun _ s2 gs2 => ?_)
  have js2 := fr_t hJ gs2 rfl
  refine pq_if (fun _ => ?_) (fun _ => ?_)
  · exact fy_X9_contentAt_25_b35 BIG _ _ _ _ _ _ js2
  · refine pq_if (fun _ => ?_) (fun _ => ?_)
    · exact pq_s js2
    · refine pq_c (fun _ => ?_)
      exact pq_s js2

theorem fy_X9_atPeace_26_25_b8 {s0 : Sg} (n : Nat) : ∀ (v2 : Int32) (v3 : Int32) (v4 : Int32) (s : Sg), Fr cDy 0 s0 s → PQ (f_X9_atPeace_26_25_b8 n v2 v3 v4 s) (fun _ s9 => Fr cDy 0 s0 s9) := by
  induction n with
  | zero => intro v2 v3 v4 s _ r s9 e; cases e
  | succ n ih =>
    intro v2 v3 v4 s hJ
    unfold f_X9_atPeace_26_25_b8
    refine pq_if (fun _ => ?_) (fun _ => ?_)
    · exact pq_s hJ
    · refine pq_c (fun _ => ?_)
      refine pq_b (fy_X2_inSight _ _) (fun _ s5 gs5 => ?_)
      have js5 := fr_t hJ gs5 rfl
      refine pq_b (fy_X9_contentAt_25 _ _ _ _) (fun _ s7 gs7 => ?_)
      have js7 := fr_t js5 gs7 rfl
      refine pq_n (fun x8 _ => ?_)
      exact ih _ _ _ _ js7
theorem fy_X9_atPeace_26_25 (a2 : Int32) (s : Sg) : PQ (f_X9_atPeace_26_25 a2 s) (fun _ s9 => Fr cDy 0 s s9) := by
  have hJ : Fr cDy 0 s s := fr_r
  unfold f_X9_atPeace_26_25
  refine pq_b (fy_X4_allQuarrels  _) (fun _ s2 gs2 => ?_)
  have js2 := fr_t hJ gs2 rfl
  exact fy_X9_atPeace_26_25_b8 BIG _ _ _ _ js2

theorem fy_X9_calmAt_25_b34 {s0 : Sg} (n : Nat) : ∀ (v1 : Int32) (v3 : Int32) (v4 : Int32) (v5 : Int32) (s : Sg), Fr cDy 0 s0 s → PQ (f_X9_calmAt_25_b34 n v1 v3 v4 v5 s) (fun _ s9 => Fr cDy 0 s0 s9) := by
  induction n with
  | zero => intro v1 v3 v4 v5 s _ r s9 e; cases e
  | succ n ih =>
    intro v1 v3 v4 v5 s hJ
    unfold f_X9_calmAt_25_b34
    refine pq_if (fun _ => ?_) (fun _ => ?_)
    · exact pq_s hJ
    · refine pq_if (fun _ => ?_) (fun _ => ?_)
      · exact pq_s hJ
      · refine pq_b (fy_X4_isAt _ _ _) (fun _ s4 gs4 => ?_)
        have js4 := fr_t hJ gs4 rfl
        refine pq_if (fun _ => ?_) (fun _ => ?_)
        · exact ih _ _ _ _ _ js4
        · refine pq_n (fun x5 _ => ?_)
          refine pq_c (fun _ => ?_)
          refine pq_n (fun x7 _ => ?_)
          exact ih _ _ _ _ _ js4
theorem fy_X9_calmAt_25 (a1 : Int32) (a2 : Int32) (s : Sg) : PQ (f_X9_calmAt_25 a1 a2 s) (fun _ s9 => Fr cDy 0 s s9) := by
  have hJ : Fr cDy 0 s s := fr_r
  unfold f_X9_calmAt_25
  refine pq_b (fy_X4_isGone _ _) (fun _ s2 gs2 => ?_)
  have js2 := fr_t hJ gs2 rfl
  refine pq_if (fun _ => ?_) (fun _ => ?_)
  · exact fy_X9_calmAt_25_b34 BIG _ _ _ _ _ js2
  · refine pq_if (fun _ => ?_) (fun _ => ?_)
    · exact pq_s js2
    · refine pq_c (fun _ => ?_)
      exact pq_s js2

theorem fy_X9_inTruce_26_25_b7 {s0 : Sg} (n : Nat) : ∀ (v2 : Int32) (v3 : Int32) (s : Sg), Fr cDy 0 s0 s → PQ (f_X9_inTruce_26_25_b7 n v2 v3 s) (fun _ s9 => Fr cDy 0 s0 s9) := by
  induction n with
  | zero => intro v2 v3 s _ r s9 e; cases e
  | succ n ih =>
    intro v2 v3 s hJ
    unfold f_X9_inTruce_26_25_b7
    refine pq_if (fun _ => ?_) (fun _ => ?_)
    · exact pq_s hJ
    · refine pq_c (fun _ => ?_)
      refine pq_b (fy_X2_inSight _ _) (fun _ s5 gs5 => ?_)
      have js5 := fr_t hJ gs5 rfl
      refine pq_b (fy_X9_calmAt_25 _ _ _) (fun _ s7 gs7 => ?_)
      have js7 := fr_t js5 gs7 rfl
      refine pq_n (fun x8 _ => ?_)
      exact ih _ _ _ js7
theorem fy_X9_inTruce_26_25  (s : Sg) : PQ (f_X9_inTruce_26_25  s) (fun _ s9 => Fr cDy 0 s s9) := by
  have hJ : Fr cDy 0 s s := fr_r
  unfold f_X9_inTruce_26_25
  refine pq_b (fy_X4_allQuarrels  _) (fun _ s2 gs2 => ?_)
  have js2 := fr_t hJ gs2 rfl
  exact fy_X9_inTruce_26_25_b7 BIG _ _ _ js2

theorem fy_X2_hasRoom (a1 : Int32) (a2 : Int32) (s : Sg) : PQ (f_X2_hasRoom a1 a2 s) (fun _ s9 => Fr cDy 0 s s9) := by
  have hJ : Fr cDy 0 s s := fr_r
  unfold f_X2_hasRoom
  refine pq_b (fy_X2_lying _ _) (fun _ s2 gs2 => ?_)
  have js2 := fr_t hJ gs2 rfl
  refine pq_if (fun _ => ?_) (fun _ => ?_)
  · exact pq_s js2
  · exact pq_s js2

theorem fy_X2_addSalt (a1 : Int32) (a2 : Int32) (s : Sg) : PQ (f_X2_addSalt a1 a2 s) (fun _ s9 => Fr cDy 822752278660603021077484591278675252491367932816791031185932288 s s9) := by
  have hJ : Fr cDy 822752278660603021077484591278675252491367932816791031185932288 s s := fr_r
  unfold f_X2_addSalt
  refine pq_c (fun _ => ?_)
  refine pq_n (fun s2 es2 => ?_)
  have js2 : Fr cDy 822752278660603021077484591278675252491367932816791031185932288 s s2 := by rw [es2]; exact (fr_i hJ 40 rfl rfl)
  exact pq_s (fr_i js2 209 rfl rfl)

theorem fy_X2_addBought_25 (a2 : Int32) (a3 : Int32) (a4 : Int32) (s : Sg) : PQ (f_X2_addBought_25 a2 a3 a4 s) (fun _ s9 => Fr cDy 1234128417990904531616226886918012878737051899225205788232384512 s s9) := by
  have hJ : Fr cDy 1234128417990904531616226886918012878737051899225205788232384512 s s := fr_r
  unfold f_X2_addBought_25
  refine pq_c (fun _ => ?_)
  refine pq_n (fun x2 _ => ?_)
  refine pq_n (fun s3 es3 => ?_)
  have js3 : Fr cDy 1234128417990904531616226886918012878737051899225205788232384512 s s3 := by rw [es3]; exact (fr_i hJ 44 rfl rfl)
  refine pq_n (fun s4 es4 => ?_)
  have js4 : Fr cDy 1234128417990904531616226886918012878737051899225205788232384512 s s4 := by rw [es4]; exact (fr_i js3 208 rfl rfl)
  refine pq_b (fy_X2_addSalt _ _ _) (fun _ s6 gs6 => ?_)
  have js6 := fr_t js4 gs6 rfl
  refine pq_c (fun _ => ?_)
  refine pq_n (fun s8 es8 => ?_)
  have js8 : Fr cDy 1234128417990904531616226886918012878737051899225205788232384512 s s8 := by rw [es8]; exact (fr_i js6 41 rfl rfl)
  exact pq_s (fr_i js8 209 rfl rfl)

theorem fy_X2_clearStep (a1 : Int32) (s : Sg) : PQ (f_X2_clearStep a1 s) (fun _ s9 => Fr cDy 3291009114642412084309938365114701009965471731267163025232101376 s s9) := by
  have hJ : Fr cDy 3291009114642412084309938365114701009965471731267163025232101376 s s := fr_r
  unfold f_X2_clearStep
  refine pq_b (fy_X2_lying _ _) (fun _ s2 gs2 => ?_)
  have js2 := fr_t hJ gs2 rfl
  refine pq_c (fun _ => ?_)
  refine pq_n (fun s4 es4 => ?_)
  have js4 : Fr cDy 3291009114642412084309938365114701009965471731267163025232101376 s s4 := by rw [es4]; exact (fr_i (fr_i js2 40 rfl rfl) 41 rfl rfl)
  refine pq_n (fun s5 es5 => ?_)
  have js5 : Fr cDy 3291009114642412084309938365114701009965471731267163025232101376 s s5 := by rw [es5]; exact (fr_i js4 211 rfl rfl)
  exact pq_s js5

theorem fy_X2_carry (a1 : Int32) (a2 : Int32) (a3 : Int32) (s : Sg) : PQ (f_X2_carry a1 a2 a3 s) (fun _ s9 => Fr cDy 3298534883328 s s9) := by
  have hJ : Fr cDy 3298534883328 s s := fr_r
  unfold f_X2_carry
  refine pq_c (fun _ => ?_)
  refine pq_n (fun x2 _ => ?_)
  refine pq_n (fun x3 _ => ?_)
  refine pq_n (fun s4 es4 => ?_)
  have js4 : Fr cDy 3298534883328 s s4 := by rw [es4]; exact (fr_i hJ 40 rfl rfl)
  refine pq_n (fun s5 es5 => ?_)
  have js5 : Fr cDy 3298534883328 s s5 := by rw [es5]; exact (fr_i js4 41 rfl rfl)
  refine pq_c (fun _ => ?_)
  refine pq_n (fun s7 es7 => ?_)
  have js7 : Fr cDy 3298534883328 s s7 := by rw [es7]; exact (fr_i js5 40 rfl rfl)
  refine pq_n (fun s8 es8 => ?_)
  have js8 : Fr cDy 3298534883328 s s8 := by rw [es8]; exact (fr_i js7 41 rfl rfl)
  exact pq_s js8

theorem fy_X2_letRain_25_b4 {s0 : Sg} (n : Nat) : ∀ (v2 : Int32) (v3 : Int32) (s : Sg), Fr cDy 1851192626986356797424340330377019318105577848837780644802068480 s0 s → PQ (f_X2_letRain_25_b4 n v2 v3 s) (fun _ s9 => Fr cDy 1851192626986356797424340330377019318105577848837780644802068480 s0 s9) := by
  induction n with
  | zero => intro v2 v3 s _ r s9 e; cases e
  | succ n ih =>
    intro v2 v3 s hJ
    unfold f_X2_letRain_25_b4
    refine pq_if (fun _ => ?_) (fun _ => ?_)
    · exact pq_s (fr_i (fr_i hJ 210 rfl rfl) 207 rfl rfl)
    · refine pq_c (fun _ => ?_)
      refine pq_n (fun x2 _ => ?_)
      refine pq_n (fun x3 _ => ?_)
      refine pq_n (fun s4 es4 => ?_)
      have js4 : Fr cDy 1851192626986356797424340330377019318105577848837780644802068480 s0 s4 := by rw [es4]; exact (fr_i (fr_i hJ 41 rfl rfl) 40 rfl rfl)
      exact ih _ _ _ js4
theorem fy_X2_letRain_25  (s : Sg) : PQ (f_X2_letRain_25  s) (fun _ s9 => Fr cDy 1851192626986356797424340330377019318105577848837780644802068480 s s9) := by
  have hJ : Fr cDy 1851192626986356797424340330377019318105577848837780644802068480 s s := fr_r
  unfold f_X2_letRain_25
  exact fy_X2_letRain_25_b4 BIG _ _ _ hJ

theorem fy_X2_letSnow_25_b2 {s0 : Sg} (n : Nat) : ∀ (v2 : Int32) (v3 : Int32) (s : Sg), Fr cDy 4398046511104 s0 s → PQ (f_X2_letSnow_25_b2 n v2 v3 s) (fun _ s9 => Fr cDy 4398046511104 s0 s9) := by
  induction n with
  | zero => intro v2 v3 s _ r s9 e; cases e
  | succ n ih =>
    intro v2 v3 s hJ
    unfold f_X2_letSnow_25_b2
    refine pq_if (fun _ => ?_) (fun _ => ?_)
    · exact pq_s hJ
    · refine pq_b (fy_X4_isGone _ _) (fun _ s2 gs2 => ?_)
      have js2 := fr_t hJ gs2 rfl
      refine pq_if (fun _ => ?_) (fun _ => ?_)
      · refine pq_c (fun _ => ?_)
        refine pq_n (fun s4 es4 => ?_)
        have js4 : Fr cDy 4398046511104 s0 s4 := by rw [es4]; exact (fr_i js2 42 rfl rfl)
        exact ih _ _ _ js4
      · exact ih _ _ _ js2
theorem fy_X2_letSnow_25 (a2 : Int32) (s : Sg) : PQ (f_X2_letSnow_25 a2 s) (fun _ s9 => Fr cDy 4398046511104 s s9) := by
  have hJ : Fr cDy 4398046511104 s s := fr_r
  unfold f_X2_letSnow_25
  exact fy_X2_letSnow_25_b2 BIG _ _ _ hJ

theorem fy_X2_sendCats_25_b2 {s0 : Sg} (n : Nat) : ∀ (v2 : Int32) (s : Sg), Fr cDy 3298534883328 s0 s → PQ (f_X2_sendCats_25_b2 n v2 s) (fun _ s9 => Fr cDy 3298534883328 s0 s9) := by
  induction n with
  | zero => intro v2 s _ r s9 e; cases e
  | succ n ih =>
    intro v2 s hJ
    unfold f_X2_sendCats_25_b2
    refine pq_if (fun _ => ?_) (fun _ => ?_)
    · exact pq_s hJ
    · refine pq_c (fun _ => ?_)
      refine pq_c (fun _ => ?_)
      refine pq_if (fun _ => ?_) (fun _ => ?_)
      · refine pq_b (fy_X2_carry _ _ _ _) (fun _ s4 gs4 => ?_)
        have js4 := fr_t hJ gs4 rfl
        exact ih _ _ js4
      · exact ih _ _ hJ
theorem fy_X2_sendCats_25  (s : Sg) : PQ (f_X2_sendCats_25  s) (fun _ s9 => Fr cDy 3298534883328 s s9) := by
  have hJ : Fr cDy 3298534883328 s s := fr_r
  unfold f_X2_sendCats_25
  exact fy_X2_sendCats_25_b2 BIG _ _ hJ

theorem fy_X2_meltSnow_25_b2 {s0 : Sg} (n : Nat) : ∀ (v2 : Int32) (s : Sg), Fr cDy 6582018229284824168619876730229402019930943462534324950952574976 s0 s → PQ (f_X2_meltSnow_25_b2 n v2 s) (fun _ s9 => Fr cDy 6582018229284824168619876730229402019930943462534324950952574976 s0 s9) := by
  induction n with
  | zero => intro v2 s _ r s9 e; cases e
  | succ n ih =>
    intro v2 s hJ
    unfold f_X2_meltSnow_25_b2
    refine pq_if (fun _ => ?_) (fun _ => ?_)
    · exact pq_s hJ
    · refine pq_c (fun _ => ?_)
      refine pq_n (fun x2 _ => ?_)
      refine pq_n (fun s3 es3 => ?_)
      have js3 : Fr cDy 6582018229284824168619876730229402019930943462534324950952574976 s0 s3 := by rw [es3]; exact (fr_i hJ 40 rfl rfl)
      refine pq_n (fun s4 es4 => ?_)
      have js4 : Fr cDy 6582018229284824168619876730229402019930943462534324950952574976 s0 s4 := by rw [es4]; exact (fr_i js3 42 rfl rfl)
      refine pq_n (fun s5 es5 => ?_)
      have js5 : Fr cDy 6582018229284824168619876730229402019930943462534324950952574976 s0 s5 := by rw [es5]; exact (fr_i js4 212 rfl rfl)
      exact ih _ _ js5
theorem fy_X2_meltSnow_25  (s : Sg) : PQ (f_X2_meltSnow_25  s) (fun _ s9 => Fr cDy 6582018229284824168619876730229402019930943462534324950952574976 s s9) := by
  have hJ : Fr cDy 6582018229284824168619876730229402019930943462534324950952574976 s s := fr_r
  unfold f_X2_meltSnow_25
  exact fy_X2_meltSnow_25_b2 BIG _ _ hJ

theorem fy_X2_countWar_25_b2 {s0 : Sg} (n : Nat) : ∀ (v2 : Int32) (s : Sg), Fr cDy 8796093022208 s0 s → PQ (f_X2_countWar_25_b2 n v2 s) (fun _ s9 => Fr cDy 8796093022208 s0 s9) := by
  induction n with
  | zero => intro v2 s _ r s9 e; cases e
  | succ n ih =>
    intro v2 s hJ
    unfold f_X2_countWar_25_b2
    refine pq_if (fun _ => ?_) (fun _ => ?_)
    · exact pq_s hJ
    · refine pq_b (fy_X11_has _ _ _) (fun _ s2 gs2 => ?_)
      have js2 := fr_t hJ gs2 rfl
      refine pq_if (fun _ => ?_) (fun _ => ?_)
      · refine pq_c (fun _ => ?_)
        refine pq_n (fun s4 es4 => ?_)
        have js4 : Fr cDy 8796093022208 s0 s4 := by rw [es4]; exact (fr_i js2 43 rfl rfl)
        exact ih _ _ js4
      · exact ih _ _ js2
theorem fy_X2_countWar_25  (s : Sg) : PQ (f_X2_countWar_25  s) (fun _ s9 => Fr cDy 8796093022208 s s9) := by
  have hJ : Fr cDy 8796093022208 s s := fr_r
  unfold f_X2_countWar_25
  exact fy_X2_countWar_25_b2 BIG _ _ hJ

theorem fy_X2_passNight_25_b35 {s0 : Sg} (t0 : Int32) (s : Sg) (hJ : Fr cDy 6941972351198837990341276238913822442895916933141681541176360960 s0 s) : PQ (f_X2_passNight_25_b35 t0 s) (fun _ s9 => Fr cDy 6941972351198837990341276238913822442895916933141681541176360960 s0 s9) := by
  unfold f_X2_passNight_25_b35
  refine pq_b (fy_X2_countWar_25  _) (fun _ s8 gs8 => ?_)
  have js8 := fr_t (fr_i hJ 205 rfl rfl) gs8 rfl
  refine pq_n (fun s9 es9 => ?_)
  have js9 : Fr cDy 6941972351198837990341276238913822442895916933141681541176360960 s0 s9 := by rw [es9]; exact (fr_i js8 206 rfl rfl)
  exact pq_s (fr_i js9 207 rfl rfl)
theorem fy_X2_passNight_25  (s : Sg) : PQ (f_X2_passNight_25  s) (fun _ s9 => Fr cDy 6941972351198837990341276238913822442895916933141681541176360960 s s9) := by
  have hJ : Fr cDy 6941972351198837990341276238913822442895916933141681541176360960 s s := fr_r
  unfold f_X2_passNight_25
  refine pq_b (fy_X2_sendCats_25  _) (fun _ s2 gs2 => ?_)
  have js2 := fr_t hJ gs2 rfl
  refine pq_b (fy_X2_meltSnow_25  _) (fun _ s4 gs4 => ?_)
  have js4 := fr_t js2 gs4 rfl
  refine pq_b (fy_X9_atPeace_26_25 _ _) (fun _ s6 gs6 => ?_)
  have js6 := fr_t js4 gs6 rfl
  refine pq_if (fun _ => ?_) (fun _ => ?_)
  · exact fy_X2_passNight_25_b35 _ _ js6
  · exact fy_X2_passNight_25_b35 _ _ js6

theorem fy_X11_copyRow_67_40  (s : Sg) : PQ (f_X11_copyRow_67_40  s) (fun _ s9 => Fr cDy 147573952589676412928 s s9) := by
  have hJ : Fr cDy 147573952589676412928 s s := fr_r
  unfold f_X11_copyRow_67_40
  refine pq_c (fun _ => ?_)
  exact pq_s (fr_a hJ 67 (fun _ => rfl) rfl)

theorem fy_X11_copyRow_68_41  (s : Sg) : PQ (f_X11_copyRow_68_41  s) (fun _ s9 => Fr cDy 295147905179352825856 s s9) := by
  have hJ : Fr cDy 295147905179352825856 s s := fr_r
  unfold f_X11_copyRow_68_41
  refine pq_c (fun _ => ?_)
  exact pq_s (fr_a hJ 68 (fun _ => rfl) rfl)

theorem fy_X11_copyRow_69_42  (s : Sg) : PQ (f_X11_copyRow_69_42  s) (fun _ s9 => Fr cDy 590295810358705651712 s s9) := by
  have hJ : Fr cDy 590295810358705651712 s s := fr_r
  unfold f_X11_copyRow_69_42
  refine pq_c (fun _ => ?_)
  exact pq_s (fr_a hJ 69 (fun _ => rfl) rfl)

theorem fy_X11_copyRow_70_43  (s : Sg) : PQ (f_X11_copyRow_70_43  s) (fun _ s9 => Fr cDy 1180591620717411303424 s s9) := by
  have hJ : Fr cDy 1180591620717411303424 s s := fr_r
  unfold f_X11_copyRow_70_43
  refine pq_c (fun _ => ?_)
  exact pq_s (fr_a hJ 70 (fun _ => rfl) rfl)

theorem fy_X11_copyRow_71_44  (s : Sg) : PQ (f_X11_copyRow_71_44  s) (fun _ s9 => Fr cDy 2361183241434822606848 s s9) := by
  have hJ : Fr cDy 2361183241434822606848 s s := fr_r
  unfold f_X11_copyRow_71_44
  refine pq_c (fun _ => ?_)
  exact pq_s (fr_a hJ 71 (fun _ => rfl) rfl)

theorem fy_X2_copyFrom_26_53  (s : Sg) : PQ (f_X2_copyFrom_26_53  s) (fun _ s9 => Fr cDy 14079562547452750126366901959045131923000262303227593147324079696519364608 s s9) := by
  have hJ : Fr cDy 14079562547452750126366901959045131923000262303227593147324079696519364608 s s := fr_r
  unfold f_X2_copyFrom_26_53
  refine pq_b (fy_X11_copyRow_67_40  _) (fun _ s2 gs2 => ?_)
  have js2 := fr_t hJ gs2 rfl
  refine pq_b (fy_X11_copyRow_68_41  _) (fun _ s4 gs4 => ?_)
  have js4 := fr_t js2 gs4 rfl
  refine pq_b (fy_X11_copyRow_69_42  _) (fun _ s6 gs6 => ?_)
  have js6 := fr_t js4 gs6 rfl
  refine pq_b (fy_X11_copyRow_70_43  _) (fun _ s8 gs8 => ?_)
  have js8 := fr_t js6 gs8 rfl
  refine pq_b (fy_X11_copyRow_71_44  _) (fun _ s10 gs10 => ?_)
  have js10 := fr_t js8 gs10 rfl
  refine pq_n (fun s11 es11 => ?_)
  have js11 : Fr cDy 14079562547452750126366901959045131923000262303227593147324079696519364608 s s11 := by rw [es11]; exact (fr_i (fr_i js10 235 rfl rfl) 236 rfl rfl)
  refine pq_c (fun _ => ?_)
  refine pq_n (fun s13 es13 => ?_)
  have js13 : Fr cDy 14079562547452750126366901959045131923000262303227593147324079696519364608 s s13 := by rw [es13]; exact (fr_i (fr_i js11 237 rfl rfl) 238 rfl rfl)
  refine pq_n (fun s14 es14 => ?_)
  have js14 : Fr cDy 14079562547452750126366901959045131923000262303227593147324079696519364608 s s14 := by rw [es14]; exact (fr_i (fr_i js13 239 rfl rfl) 240 rfl rfl)
  refine pq_n (fun s15 es15 => ?_)
  have js15 : Fr cDy 14079562547452750126366901959045131923000262303227593147324079696519364608 s s15 := by rw [es15]; exact (fr_i (fr_i js14 241 rfl rfl) 242 rfl rfl)
  exact pq_s js15

theorem fy_X2_carry_53 (a1 : Int32) (a2 : Int32) (a3 : Int32) (s : Sg) : PQ (f_X2_carry_53 a1 a2 a3 s) (fun _ s9 => Fr cDy 442721857769029238784 s s9) := by
  have hJ : Fr cDy 442721857769029238784 s s := fr_r
  unfold f_X2_carry_53
  refine pq_c (fun _ => ?_)
  refine pq_n (fun x2 _ => ?_)
  refine pq_n (fun x3 _ => ?_)
  refine pq_n (fun s4 es4 => ?_)
  have js4 : Fr cDy 442721857769029238784 s s4 := by rw [es4]; exact (fr_i hJ 67 rfl rfl)
  refine pq_n (fun s5 es5 => ?_)
  have js5 : Fr cDy 442721857769029238784 s s5 := by rw [es5]; exact (fr_i js4 68 rfl rfl)
  refine pq_c (fun _ => ?_)
  refine pq_n (fun s7 es7 => ?_)
  have js7 : Fr cDy 442721857769029238784 s s7 := by rw [es7]; exact (fr_i js5 67 rfl rfl)
  refine pq_n (fun s8 es8 => ?_)
  have js8 : Fr cDy 442721857769029238784 s s8 := by rw [es8]; exact (fr_i js7 68 rfl rfl)
  exact pq_s js8

theorem fy_X2_sendCats_25_53_b2 {s0 : Sg} (n : Nat) : ∀ (v2 : Int32) (s : Sg), Fr cDy 442721857769029238784 s0 s → PQ (f_X2_sendCats_25_53_b2 n v2 s) (fun _ s9 => Fr cDy 442721857769029238784 s0 s9) := by
  induction n with
  | zero => intro v2 s _ r s9 e; cases e
  | succ n ih =>
    intro v2 s hJ
    unfold f_X2_sendCats_25_53_b2
    refine pq_if (fun _ => ?_) (fun _ => ?_)
    · exact pq_s hJ
    · refine pq_c (fun _ => ?_)
      refine pq_c (fun _ => ?_)
      refine pq_if (fun _ => ?_) (fun _ => ?_)
      · refine pq_b (fy_X2_carry_53 _ _ _ _) (fun _ s4 gs4 => ?_)
        have js4 := fr_t hJ gs4 rfl
        exact ih _ _ js4
      · exact ih _ _ hJ
theorem fy_X2_sendCats_25_53  (s : Sg) : PQ (f_X2_sendCats_25_53  s) (fun _ s9 => Fr cDy 442721857769029238784 s s9) := by
  have hJ : Fr cDy 442721857769029238784 s s := fr_r
  unfold f_X2_sendCats_25_53
  exact fy_X2_sendCats_25_53_b2 BIG _ _ hJ

theorem fy_X2_meltSnow_25_53_b2 {s0 : Sg} (n : Nat) : ∀ (v2 : Int32) (s : Sg), Fr cDy 7067388259113537318333190002971674063309935587502476570356187753552543744 s0 s → PQ (f_X2_meltSnow_25_53_b2 n v2 s) (fun _ s9 => Fr cDy 7067388259113537318333190002971674063309935587502476570356187753552543744 s0 s9) := by
  induction n with
  | zero => intro v2 s _ r s9 e; cases e
  | succ n ih =>
    intro v2 s hJ
    unfold f_X2_meltSnow_25_53_b2
    refine pq_if (fun _ => ?_) (fun _ => ?_)
    · exact pq_s hJ
    · refine pq_c (fun _ => ?_)
      refine pq_n (fun x2 _ => ?_)
      refine pq_n (fun s3 es3 => ?_)
      have js3 : Fr cDy 7067388259113537318333190002971674063309935587502476570356187753552543744 s0 s3 := by rw [es3]; exact (fr_i hJ 67 rfl rfl)
      refine pq_n (fun s4 es4 => ?_)
      have js4 : Fr cDy 7067388259113537318333190002971674063309935587502476570356187753552543744 s0 s4 := by rw [es4]; exact (fr_i js3 69 rfl rfl)
      refine pq_n (fun s5 es5 => ?_)
      have js5 : Fr cDy 7067388259113537318333190002971674063309935587502476570356187753552543744 s0 s5 := by rw [es5]; exact (fr_i js4 242 rfl rfl)
      exact ih _ _ js5
theorem fy_X2_meltSnow_25_53  (s : Sg) : PQ (f_X2_meltSnow_25_53  s) (fun _ s9 => Fr cDy 7067388259113537318333190002971674063309935587502476570356187753552543744 s s9) := by
  have hJ : Fr cDy 7067388259113537318333190002971674063309935587502476570356187753552543744 s s := fr_r
  unfold f_X2_meltSnow_25_53
  exact fy_X2_meltSnow_25_53_b2 BIG _ _ hJ

theorem fy_X2_lying_53 (a1 : Int32) (s : Sg) : PQ (f_X2_lying_53 a1 s) (fun _ s9 => Fr cDy 0 s s9) := by
  have hJ : Fr cDy 0 s s := fr_r
  unfold f_X2_lying_53
  refine pq_c (fun _ => ?_)
  exact pq_s hJ

theorem fy_X2_inSight_53 (a1 : Int32) (s : Sg) : PQ (f_X2_inSight_53 a1 s) (fun _ s9 => Fr cDy 0 s s9) := by
  have hJ : Fr cDy 0 s s := fr_r
  unfold f_X2_inSight_53
  refine pq_c (fun _ => ?_)
  refine pq_if (fun _ => ?_) (fun _ => ?_)
  · refine pq_b (fy_X2_lying_53 _ _) (fun _ s3 gs3 => ?_)
    have js3 := fr_t hJ gs3 rfl
    exact pq_s js3
  · exact pq_s hJ

theorem fy_X9_atPeace_53_25_b8 {s0 : Sg} (n : Nat) : ∀ (v2 : Int32) (v3 : Int32) (v4 : Int32) (s : Sg), Fr cDy 0 s0 s → PQ (f_X9_atPeace_53_25_b8 n v2 v3 v4 s) (fun _ s9 => Fr cDy 0 s0 s9) := by
  induction n with
  | zero => intro v2 v3 v4 s _ r s9 e; cases e
  | succ n ih =>
    intro v2 v3 v4 s hJ
    unfold f_X9_atPeace_53_25_b8
    refine pq_if (fun _ => ?_) (fun _ => ?_)
    · exact pq_s hJ
    · refine pq_c (fun _ => ?_)
      refine pq_b (fy_X2_inSight_53 _ _) (fun _ s5 gs5 => ?_)
      have js5 := fr_t hJ gs5 rfl
      refine pq_b (fy_X9_contentAt_25 _ _ _ _) (fun _ s7 gs7 => ?_)
      have js7 := fr_t js5 gs7 rfl
      refine pq_n (fun x8 _ => ?_)
      exact ih _ _ _ _ js7
theorem fy_X9_atPeace_53_25 (a2 : Int32) (s : Sg) : PQ (f_X9_atPeace_53_25 a2 s) (fun _ s9 => Fr cDy 0 s s9) := by
  have hJ : Fr cDy 0 s s := fr_r
  unfold f_X9_atPeace_53_25
  refine pq_b (fy_X4_allQuarrels  _) (fun _ s2 gs2 => ?_)
  have js2 := fr_t hJ gs2 rfl
  exact fy_X9_atPeace_53_25_b8 BIG _ _ _ _ js2

theorem fy_X2_countWar_25_53_b2 {s0 : Sg} (n : Nat) : ∀ (v2 : Int32) (s : Sg), Fr cDy 1180591620717411303424 s0 s → PQ (f_X2_countWar_25_53_b2 n v2 s) (fun _ s9 => Fr cDy 1180591620717411303424 s0 s9) := by
  induction n with
  | zero => intro v2 s _ r s9 e; cases e
  | succ n ih =>
    intro v2 s hJ
    unfold f_X2_countWar_25_53_b2
    refine pq_if (fun _ => ?_) (fun _ => ?_)
    · exact pq_s hJ
    · refine pq_b (fy_X11_has _ _ _) (fun _ s2 gs2 => ?_)
      have js2 := fr_t hJ gs2 rfl
      refine pq_if (fun _ => ?_) (fun _ => ?_)
      · refine pq_c (fun _ => ?_)
        refine pq_n (fun s4 es4 => ?_)
        have js4 : Fr cDy 1180591620717411303424 s0 s4 := by rw [es4]; exact (fr_i js2 70 rfl rfl)
        exact ih _ _ js4
      · exact ih _ _ js2
theorem fy_X2_countWar_25_53  (s : Sg) : PQ (f_X2_countWar_25_53  s) (fun _ s9 => Fr cDy 1180591620717411303424 s s9) := by
  have hJ : Fr cDy 1180591620717411303424 s s := fr_r
  unfold f_X2_countWar_25_53
  exact fy_X2_countWar_25_53_b2 BIG _ _ hJ

theorem fy_X2_passNight_25_53_b35 {s0 : Sg} (t0 : Int32) (s : Sg) (hJ : Fr cDy 7453886054533808890429536331259187488647197689944019693184815006849433600 s0 s) : PQ (f_X2_passNight_25_53_b35 t0 s) (fun _ s9 => Fr cDy 7453886054533808890429536331259187488647197689944019693184815006849433600 s0 s9) := by
  unfold f_X2_passNight_25_53_b35
  refine pq_b (fy_X2_countWar_25_53  _) (fun _ s8 gs8 => ?_)
  have js8 := fr_t (fr_i hJ 235 rfl rfl) gs8 rfl
  refine pq_n (fun s9 es9 => ?_)
  have js9 : Fr cDy 7453886054533808890429536331259187488647197689944019693184815006849433600 s0 s9 := by rw [es9]; exact (fr_i js8 236 rfl rfl)
  exact pq_s (fr_i js9 237 rfl rfl)
theorem fy_X2_passNight_25_53  (s : Sg) : PQ (f_X2_passNight_25_53  s) (fun _ s9 => Fr cDy 7453886054533808890429536331259187488647197689944019693184815006849433600 s s9) := by
  have hJ : Fr cDy 7453886054533808890429536331259187488647197689944019693184815006849433600 s s := fr_r
  unfold f_X2_passNight_25_53
  refine pq_b (fy_X2_sendCats_25_53  _) (fun _ s2 gs2 => ?_)
  have js2 := fr_t hJ gs2 rfl
  refine pq_b (fy_X2_meltSnow_25_53  _) (fun _ s4 gs4 => ?_)
  have js4 := fr_t js2 gs4 rfl
  refine pq_b (fy_X9_atPeace_53_25 _ _) (fun _ s6 gs6 => ?_)
  have js6 := fr_t js4 gs6 rfl
  refine pq_if (fun _ => ?_) (fun _ => ?_)
  · exact fy_X2_passNight_25_53_b35 _ _ js6
  · exact fy_X2_passNight_25_53_b35 _ _ js6

theorem fy_bitCount (a0 : Int32) (s : Sg) : PQ (f_bitCount a0 s) (fun _ s9 => Fr cDy 0 s s9) := by
  have hJ : Fr cDy 0 s s := fr_r
  unfold f_bitCount
  refine pq_n (fun x1 _ => ?_)
  refine pq_n (fun x2 _ => ?_)
  refine pq_n (fun x3 _ => ?_)
  refine pq_n (fun x4 _ => ?_)
  refine pq_n (fun x5 _ => ?_)
  exact pq_s hJ

theorem fy_X3_begin (a1 : Int32) (s : Sg) : PQ (f_X3_begin a1 s) (fun _ s9 => Fr cDy 944863448176500154656339237670893328082683074871627002561973885504571137861877760 s s9) := by
  have hJ : Fr cDy 944863448176500154656339237670893328082683074871627002561973885504571137861877760 s s := fr_r
  unfold f_X3_begin
  refine pq_n (fun s1 es1 => ?_)
  have js1 : Fr cDy 944863448176500154656339237670893328082683074871627002561973885504571137861877760 s s1 := by rw [es1]; exact (fr_i (fr_i (fr_i hJ 261 rfl rfl) 262 rfl rfl) 263 rfl rfl)
  refine pq_n (fun s2 es2 => ?_)
  have js2 : Fr cDy 944863448176500154656339237670893328082683074871627002561973885504571137861877760 s s2 := by rw [es2]; exact (fr_i (fr_i (fr_i js1 264 rfl rfl) 265 rfl rfl) 266 rfl rfl)
  exact pq_s (fr_i (fr_i js2 267 rfl rfl) 268 rfl rfl)

theorem fy_X3_behindEnd_27 (a2 : Int32) (s : Sg) : PQ (f_X3_behindEnd_27 a2 s) (fun _ s9 => Fr cDy 262144 s s9) := by
  have hJ : Fr cDy 262144 s s := fr_r
  unfold f_X3_behindEnd_27
  refine pq_c (fun _ => ?_)
  refine pq_c (fun _ => ?_)
  refine pq_if (fun _ => ?_) (fun _ => ?_)
  · refine pq_n (fun s3 es3 => ?_)
    have js3 : Fr cDy 262144 s s3 := by rw [es3]; exact (fr_i hJ 18 rfl rfl)
    refine pq_if (fun _ => ?_) (fun _ => ?_)
    · exact pq_s js3
    · exact pq_s js3
  · exact pq_s hJ

theorem fy_X3_maybeRain_25_26 (a3 : Int32) (s : Sg) : PQ (f_X3_maybeRain_25_26 a3 s) (fun _ s9 => Fr cDy 66696243400694130415169514351361032347823841544428282992305417226338607474671616 s s9) := by
  have hJ : Fr cDy 66696243400694130415169514351361032347823841544428282992305417226338607474671616 s s := fr_r
  unfold f_X3_maybeRain_25_26
  refine pq_n (fun s1 es1 => ?_)
  have js1 : Fr cDy 66696243400694130415169514351361032347823841544428282992305417226338607474671616 s s1 := by rw [es1]; exact (fr_i hJ 262 rfl rfl)
  refine pq_if (fun _ => ?_) (fun _ => ?_)
  · exact pq_s js1
  · refine pq_b (fy_X2_letRain_25  _) (fun _ s3 gs3 => ?_)
    have js3 := fr_t js1 gs3 rfl
    exact pq_s (fr_i js3 265 rfl rfl)

theorem fy_X3_tryBuy_25_26 (a3 : Int32) (a4 : Int32) (a5 : Int32) (s : Sg) : PQ (f_X3_tryBuy_25_26 a3 a4 a5 s) (fun _ s9 => Fr cDy 29642774844752947262562590153128636026664002992416863131153040731231549420208128 s s9) := by
  have hJ : Fr cDy 29642774844752947262562590153128636026664002992416863131153040731231549420208128 s s := fr_r
  unfold f_X3_tryBuy_25_26
  refine pq_b (fy_X2_hasRoom _ _ _) (fun _ s2 gs2 => ?_)
  have js2 := fr_t hJ gs2 rfl
  refine pq_if (fun _ => ?_) (fun _ => ?_)
  · exact pq_s (fr_i js2 264 rfl rfl)
  · refine pq_c (fun _ => ?_)
    refine pq_if (fun _ => ?_) (fun _ => ?_)
    · exact pq_s (fr_i js2 264 rfl rfl)
    · refine pq_b (fy_X2_addBought_25 _ _ _ _) (fun _ s5 gs5 => ?_)
      have js5 := fr_t js2 gs5 rfl
      exact pq_s js5

theorem fy_X3_tryStrew_26 (a2 : Int32) (a3 : Int32) (s : Sg) : PQ (f_X3_tryStrew_26 a2 a3 s) (fun _ s9 => Fr cDy 29642774844752946851186450822827125487921707353079236885469074322816792373755904 s s9) := by
  have hJ : Fr cDy 29642774844752946851186450822827125487921707353079236885469074322816792373755904 s s := fr_r
  unfold f_X3_tryStrew_26
  refine pq_b (fy_X2_hasRoom _ _ _) (fun _ s2 gs2 => ?_)
  have js2 := fr_t hJ gs2 rfl
  refine pq_if (fun _ => ?_) (fun _ => ?_)
  · exact pq_s (fr_i js2 264 rfl rfl)
  · refine pq_b (fy_X2_addSalt _ _ _) (fun _ s4 gs4 => ?_)
    have js4 := fr_t js2 gs4 rfl
    exact pq_s js4

theorem fy_X3_tryNight_25_26  (s : Sg) : PQ (f_X3_tryNight_25_26  s) (fun _ s9 => Fr cDy 385356072981788305311616589307751347676958747881074240019231772720016436618067968 s s9) := by
  have hJ : Fr cDy 385356072981788305311616589307751347676958747881074240019231772720016436618067968 s s := fr_r
  unfold f_X3_tryNight_25_26
  refine pq_if (fun _ => ?_) (fun _ => ?_)
  · refine pq_b (fy_X2_passNight_25  _) (fun _ s2 gs2 => ?_)
    have js2 := fr_t hJ gs2 rfl
    refine pq_b (fy_bitCount _ _) (fun _ s4 gs4 => ?_)
    have js4 := fr_t js2 gs4 rfl
    refine pq_b (fy_bitCount _ _) (fun _ s6 gs6 => ?_)
    have js6 := fr_t (fr_i js4 266 rfl rfl) gs6 rfl
    refine pq_n (fun s7 es7 => ?_)
    have js7 : Fr cDy 385356072981788305311616589307751347676958747881074240019231772720016436618067968 s s7 := by rw [es7]; exact (fr_i js6 267 rfl rfl)
    exact pq_s js7
  · exact pq_s (fr_i hJ 264 rfl rfl)

theorem fy_X3_act_25_26_27 (a4 : Int32) (s : Sg) : PQ (f_X3_act_25_26_27 a4 s) (fun _ s9 => Fr cDy 452052316382482440046235566627278240681576693638547598591218837234516479033999360 s s9) := by
  have hJ : Fr cDy 452052316382482440046235566627278240681576693638547598591218837234516479033999360 s s := fr_r
  unfold f_X3_act_25_26_27
  refine pq_c (fun _ => ?_)
  refine pq_if (fun _ => ?_) (fun _ => ?_)
  · refine pq_b (fy_X3_maybeRain_25_26 _ _) (fun _ s3 gs3 => ?_)
    have js3 := fr_t hJ gs3 rfl
    exact pq_s js3
  · refine pq_if (fun _ => ?_) (fun _ => ?_)
    · exact pq_s hJ
    · refine pq_if (fun _ => ?_) (fun _ => ?_)
      · exact pq_s hJ
      · refine pq_if (fun _ => ?_) (fun _ => ?_)
        · refine pq_b (fy_X3_tryBuy_25_26 _ _ _ _) (fun _ s5 gs5 => ?_)
          have js5 := fr_t hJ gs5 rfl
          exact pq_s js5
        · refine pq_if (fun _ => ?_) (fun _ => ?_)
          · refine pq_b (fy_X3_tryStrew_26 _ _ _) (fun _ s7 gs7 => ?_)
            have js7 := fr_t hJ gs7 rfl
            exact pq_s js7
          · refine pq_if (fun _ => ?_) (fun _ => ?_)
            · refine pq_b (fy_X2_clearStep _ _) (fun _ s9 gs9 => ?_)
              have js9 := fr_t hJ gs9 rfl
              exact pq_s js9
            · refine pq_if (fun _ => ?_) (fun _ => ?_)
              · refine pq_b (fy_X2_letSnow_25 _ _) (fun _ s11 gs11 => ?_)
                have js11 := fr_t hJ gs11 rfl
                exact pq_s js11
              · refine pq_if (fun _ => ?_) (fun _ => ?_)
                · refine pq_b (fy_X3_tryNight_25_26  _) (fun _ s13 gs13 => ?_)
                  have js13 := fr_t hJ gs13 rfl
                  exact pq_s js13
                · exact pq_s hJ

theorem fy_X3_holds_26_27_25 (a3 : Int32) (s : Sg) : PQ (f_X3_holds_26_27_25 a3 s) (fun _ s9 => Fr cDy 0 s s9) := by
  have hJ : Fr cDy 0 s s := fr_r
  unfold f_X3_holds_26_27_25
  refine pq_c (fun _ => ?_)
  refine pq_if (fun _ => ?_) (fun _ => ?_)
  · refine pq_b (fy_X2_lying _ _) (fun _ s3 gs3 => ?_)
    have js3 := fr_t hJ gs3 rfl
    refine pq_if (fun _ => ?_) (fun _ => ?_)
    · exact pq_s js3
    · exact pq_s js3
  · refine pq_if (fun _ => ?_) (fun _ => ?_)
    · refine pq_b (fy_X2_lying _ _) (fun _ s5 gs5 => ?_)
      have js5 := fr_t hJ gs5 rfl
      refine pq_if (fun _ => ?_) (fun _ => ?_)
      · exact pq_s js5
      · exact pq_s js5
    · refine pq_if (fun _ => ?_) (fun _ => ?_)
      · refine pq_b (fy_X11_has _ _ _) (fun _ s7 gs7 => ?_)
        have js7 := fr_t hJ gs7 rfl
        refine pq_c (fun _ => ?_)
        exact pq_s js7
      · refine pq_if (fun _ => ?_) (fun _ => ?_)
        · refine pq_b (fy_X9_inTruce_26_25  _) (fun _ s9 gs9 => ?_)
          have js9 := fr_t hJ gs9 rfl
          refine pq_b (fy_X11_has _ _ _) (fun _ s11 gs11 => ?_)
          have js11 := fr_t js9 gs11 rfl
          refine pq_c (fun _ => ?_)
          exact pq_s js11
        · refine pq_b (fy_X2_lying _ _) (fun _ s13 gs13 => ?_)
          have js13 := fr_t hJ gs13 rfl
          refine pq_if (fun _ => ?_) (fun _ => ?_)
          · exact pq_s js13
          · exact pq_s js13

theorem fy_X3_behindStep_25_26_27 (a4 : Int32) (s : Sg) : PQ (f_X3_behindStep_25_26_27 a4 s) (fun _ s9 => Fr cDy 262144 s s9) := by
  have hJ : Fr cDy 262144 s s := fr_r
  unfold f_X3_behindStep_25_26_27
  refine pq_c (fun _ => ?_)
  refine pq_if (fun _ => ?_) (fun _ => ?_)
  · refine pq_b (fy_X3_holds_26_27_25 _ _) (fun _ s3 gs3 => ?_)
    have js3 := fr_t hJ gs3 rfl
    refine pq_if (fun _ => ?_) (fun _ => ?_)
    · exact pq_s js3
    · exact pq_s js3
  · refine pq_if (fun _ => ?_) (fun _ => ?_)
    · refine pq_n (fun s4 es4 => ?_)
      have js4 : Fr cDy 262144 s s4 := by rw [es4]; exact (fr_i hJ 18 rfl rfl)
      exact pq_s js4
    · refine pq_if (fun _ => ?_) (fun _ => ?_)
      · exact pq_s hJ
      · exact pq_s hJ

theorem fy_X3_run_25_26_27_b12 {s0 : Sg} (n : Nat) : ∀ (v5 : Int32) (v6 : Int32) (s : Sg), Fr cDy 944863448176500167768953678824253976505093748375513839143150314772194758781829120 s0 s → PQ (f_X3_run_25_26_27_b12 n v5 v6 s) (fun _ s9 => Fr cDy 944863448176500167768953678824253976505093748375513839143150314772194758781829120 s0 s9) := by
  induction n with
  | zero => intro v5 v6 s _ r s9 e; cases e
  | succ n ih =>
    intro v5 v6 s hJ
    unfold f_X3_run_25_26_27_b12
    refine pq_if (fun _ => ?_) (fun _ => ?_)
    · exact pq_s hJ
    · refine pq_if (fun _ => ?_) (fun _ => ?_)
      · exact pq_s hJ
      · refine pq_c (fun _ => ?_)
        refine pq_if (fun _ => ?_) (fun _ => ?_)
        · refine pq_b (fy_X3_behindEnd_27 _ _) (fun _ s5 gs5 => ?_)
          have js5 := fr_t hJ gs5 rfl
          exact ih _ _ _ js5
        · refine pq_if (fun _ => ?_) (fun _ => ?_)
          · refine pq_b (fy_X3_act_25_26_27 _ _) (fun _ s7 gs7 => ?_)
            have js7 := fr_t (fr_i hJ 263 rfl rfl) gs7 rfl
            refine pq_b (fy_X3_behindStep_25_26_27 _ _) (fun _ s9 gs9 => ?_)
            have js9 := fr_t js7 gs9 rfl
            exact ih _ _ _ js9
          · exact pq_s (fr_i hJ 268 rfl rfl)
theorem fy_X3_run_25_26_27 (a4 : Int32) (s : Sg) : PQ (f_X3_run_25_26_27 a4 s) (fun _ s9 => Fr cDy 944863448176500167768953678824253976505093748375513839143150314772194758781829120 s s9) := by
  have hJ : Fr cDy 944863448176500167768953678824253976505093748375513839143150314772194758781829120 s s := fr_r
  unfold f_X3_run_25_26_27
  refine pq_b (fy_X3_begin _ _) (fun _ s2 gs2 => ?_)
  have js2 := fr_t hJ gs2 rfl
  exact fy_X3_run_25_26_27_b12 BIG _ _ _ js2

theorem fy_X3_begin_5 (a1 : Int32) (s : Sg) : PQ (f_X3_begin_5 a1 s) (fun _ s9 => Fr cDy 967540170932736158368091379374994767956667468668546050623461258756680845170562826240 s s9) := by
  have hJ : Fr cDy 967540170932736158368091379374994767956667468668546050623461258756680845170562826240 s s := fr_r
  unfold f_X3_begin_5
  refine pq_n (fun s1 es1 => ?_)
  have js1 : Fr cDy 967540170932736158368091379374994767956667468668546050623461258756680845170562826240 s s1 := by rw [es1]; exact (fr_i (fr_i (fr_i hJ 271 rfl rfl) 272 rfl rfl) 273 rfl rfl)
  refine pq_n (fun s2 es2 => ?_)
  have js2 : Fr cDy 967540170932736158368091379374994767956667468668546050623461258756680845170562826240 s s2 := by rw [es2]; exact (fr_i (fr_i (fr_i js1 274 rfl rfl) 275 rfl rfl) 276 rfl rfl)
  exact pq_s (fr_i (fr_i js2 277 rfl rfl) 278 rfl rfl)

theorem fy_X3_behindEnd_27_5 (a2 : Int32) (s : Sg) : PQ (f_X3_behindEnd_27_5 a2 s) (fun _ s9 => Fr cDy 524288 s s9) := by
  have hJ : Fr cDy 524288 s s := fr_r
  unfold f_X3_behindEnd_27_5
  refine pq_c (fun _ => ?_)
  refine pq_c (fun _ => ?_)
  refine pq_if (fun _ => ?_) (fun _ => ?_)
  · refine pq_n (fun s3 es3 => ?_)
    have js3 : Fr cDy 524288 s s3 := by rw [es3]; exact (fr_i hJ 19 rfl rfl)
    refine pq_if (fun _ => ?_) (fun _ => ?_)
    · exact pq_s js3
    · exact pq_s js3
  · exact pq_s hJ

theorem fy_X2_letRain_25_53_b4 {s0 : Sg} (n : Nat) : ∀ (v2 : Int32) (v3 : Int32) (s : Sg), Fr cDy 1987702947875682370781209688335783330305919383985071770608664745483436032 s0 s → PQ (f_X2_letRain_25_53_b4 n v2 v3 s) (fun _ s9 => Fr cDy 1987702947875682370781209688335783330305919383985071770608664745483436032 s0 s9) := by
  induction n with
  | zero => intro v2 v3 s _ r s9 e; cases e
  | succ n ih =>
    intro v2 v3 s hJ
    unfold f_X2_letRain_25_53_b4
    refine pq_if (fun _ => ?_) (fun _ => ?_)
    · exact pq_s (fr_i (fr_i hJ 240 rfl rfl) 237 rfl rfl)
    · refine pq_c (fun _ => ?_)
      refine pq_n (fun x2 _ => ?_)
      refine pq_n (fun x3 _ => ?_)
      refine pq_n (fun s4 es4 => ?_)
      have js4 : Fr cDy 1987702947875682370781209688335783330305919383985071770608664745483436032 s0 s4 := by rw [es4]; exact (fr_i (fr_i hJ 68 rfl rfl) 67 rfl rfl)
      exact ih _ _ _ js4
theorem fy_X2_letRain_25_53  (s : Sg) : PQ (f_X2_letRain_25_53  s) (fun _ s9 => Fr cDy 1987702947875682370781209688335783330305919383985071770608664745483436032 s s9) := by
  have hJ : Fr cDy 1987702947875682370781209688335783330305919383985071770608664745483436032 s s := fr_r
  unfold f_X2_letRain_25_53
  exact fy_X2_letRain_25_53_b4 BIG _ _ _ hJ

theorem fy_X3_maybeRain_25_53_5 (a3 : Int32) (s : Sg) : PQ (f_X3_maybeRain_25_53_5 a3 s) (fun _ s9 => Fr cDy 68296953244298490597388015032545546249982898765732699427994101800492018522229047296 s s9) := by
  have hJ : Fr cDy 68296953244298490597388015032545546249982898765732699427994101800492018522229047296 s s := fr_r
  unfold f_X3_maybeRain_25_53_5
  refine pq_n (fun s1 es1 => ?_)
  have js1 : Fr cDy 68296953244298490597388015032545546249982898765732699427994101800492018522229047296 s s1 := by rw [es1]; exact (fr_i hJ 272 rfl rfl)
  refine pq_if (fun _ => ?_) (fun _ => ?_)
  · exact pq_s js1
  · refine pq_b (fy_X2_letRain_25_53  _) (fun _ s3 gs3 => ?_)
    have js3 := fr_t js1 gs3 rfl
    exact pq_s (fr_i js3 275 rfl rfl)

theorem fy_X2_hasRoom_53 (a1 : Int32) (a2 : Int32) (s : Sg) : PQ (f_X2_hasRoom_53 a1 a2 s) (fun _ s9 => Fr cDy 0 s s9) := by
  have hJ : Fr cDy 0 s s := fr_r
  unfold f_X2_hasRoom_53
  refine pq_b (fy_X2_lying_53 _ _) (fun _ s2 gs2 => ?_)
  have js2 := fr_t hJ gs2 rfl
  refine pq_if (fun _ => ?_) (fun _ => ?_)
  · exact pq_s js2
  · exact pq_s js2

theorem fy_X2_addSalt_53 (a1 : Int32) (a2 : Int32) (s : Sg) : PQ (f_X2_addSalt_53 a1 a2 s) (fun _ s9 => Fr cDy 883423532389192164791648750371459257913741948437809626634755690322722816 s s9) := by
  have hJ : Fr cDy 883423532389192164791648750371459257913741948437809626634755690322722816 s s := fr_r
  unfold f_X2_addSalt_53
  refine pq_c (fun _ => ?_)
  refine pq_n (fun s2 es2 => ?_)
  have js2 : Fr cDy 883423532389192164791648750371459257913741948437809626634755690322722816 s s2 := by rw [es2]; exact (fr_i hJ 67 rfl rfl)
  exact pq_s (fr_i js2 239 rfl rfl)

theorem fy_X2_addBought_25_53 (a2 : Int32) (a3 : Int32) (a4 : Int32) (s : Sg) : PQ (f_X2_addBought_25_53 a2 a3 a4 s) (fun _ s9 => Fr cDy 1325135298583788247187473125557188886870612922656717022496303854821310464 s s9) := by
  have hJ : Fr cDy 1325135298583788247187473125557188886870612922656717022496303854821310464 s s := fr_r
  unfold f_X2_addBought_25_53
  refine pq_c (fun _ => ?_)
  refine pq_n (fun x2 _ => ?_)
  refine pq_n (fun s3 es3 => ?_)
  have js3 : Fr cDy 1325135298583788247187473125557188886870612922656717022496303854821310464 s s3 := by rw [es3]; exact (fr_i hJ 71 rfl rfl)
  refine pq_n (fun s4 es4 => ?_)
  have js4 : Fr cDy 1325135298583788247187473125557188886870612922656717022496303854821310464 s s4 := by rw [es4]; exact (fr_i js3 238 rfl rfl)
  refine pq_b (fy_X2_addSalt_53 _ _ _) (fun _ s6 gs6 => ?_)
  have js6 := fr_t js4 gs6 rfl
  refine pq_c (fun _ => ?_)
  refine pq_n (fun s8 es8 => ?_)
  have js8 : Fr cDy 1325135298583788247187473125557188886870612922656717022496303854821310464 s s8 := by rw [es8]; exact (fr_i js6 68 rfl rfl)
  exact pq_s (fr_i js8 239 rfl rfl)

theorem fy_X3_tryBuy_25_53_5 (a3 : Int32) (a4 : Int32) (a5 : Int32) (s : Sg) : PQ (f_X3_tryBuy_25_53_5 a3 a4 a5 s) (fun _ s9 => Fr cDy 30354201442352152031700380541304956041844795747060292942216285924666683311152693248 s s9) := by
  have hJ : Fr cDy 30354201442352152031700380541304956041844795747060292942216285924666683311152693248 s s := fr_r
  unfold f_X3_tryBuy_25_53_5
  refine pq_b (fy_X2_hasRoom_53 _ _ _) (fun _ s2 gs2 => ?_)
  have js2 := fr_t hJ gs2 rfl
  refine pq_if (fun _ => ?_) (fun _ => ?_)
  · exact pq_s (fr_i js2 274 rfl rfl)
  · refine pq_c (fun _ => ?_)
    refine pq_if (fun _ => ?_) (fun _ => ?_)
    · exact pq_s (fr_i js2 274 rfl rfl)
    · refine pq_b (fy_X2_addBought_25_53 _ _ _ _) (fun _ s5 gs5 => ?_)
      have js5 := fr_t js2 gs5 rfl
      exact pq_s js5

theorem fy_X3_tryStrew_53_5 (a2 : Int32) (a3 : Int32) (s : Sg) : PQ (f_X3_tryStrew_53_5 a2 a3 s) (fun _ s9 => Fr cDy 30354201441910440265505784458909131666659066118103421967997378528805135146654105600 s s9) := by
  have hJ : Fr cDy 30354201441910440265505784458909131666659066118103421967997378528805135146654105600 s s := fr_r
  unfold f_X3_tryStrew_53_5
  refine pq_b (fy_X2_hasRoom_53 _ _ _) (fun _ s2 gs2 => ?_)
  have js2 := fr_t hJ gs2 rfl
  refine pq_if (fun _ => ?_) (fun _ => ?_)
  · exact pq_s (fr_i js2 274 rfl rfl)
  · refine pq_b (fy_X2_addSalt_53 _ _ _) (fun _ s4 gs4 => ?_)
    have js4 := fr_t js2 gs4 rfl
    exact pq_s js4

theorem fy_X2_clearStep_53 (a1 : Int32) (s : Sg) : PQ (f_X2_clearStep_53 a1 s) (fun _ s9 => Fr cDy 3533694129556768659166595001485837031654967793751238358965070171614478336 s s9) := by
  have hJ : Fr cDy 3533694129556768659166595001485837031654967793751238358965070171614478336 s s := fr_r
  unfold f_X2_clearStep_53
  refine pq_b (fy_X2_lying_53 _ _) (fun _ s2 gs2 => ?_)
  have js2 := fr_t hJ gs2 rfl
  refine pq_c (fun _ => ?_)
  refine pq_n (fun s4 es4 => ?_)
  have js4 : Fr cDy 3533694129556768659166595001485837031654967793751238358965070171614478336 s s4 := by rw [es4]; exact (fr_i (fr_i js2 67 rfl rfl) 68 rfl rfl)
  refine pq_n (fun s5 es5 => ?_)
  have js5 : Fr cDy 3533694129556768659166595001485837031654967793751238358965070171614478336 s s5 := by rw [es5]; exact (fr_i js4 241 rfl rfl)
  exact pq_s js5

theorem fy_X2_letSnow_25_53_b2 {s0 : Sg} (n : Nat) : ∀ (v2 : Int32) (v3 : Int32) (s : Sg), Fr cDy 590295810358705651712 s0 s → PQ (f_X2_letSnow_25_53_b2 n v2 v3 s) (fun _ s9 => Fr cDy 590295810358705651712 s0 s9) := by
  induction n with
  | zero => intro v2 v3 s _ r s9 e; cases e
  | succ n ih =>
    intro v2 v3 s hJ
    unfold f_X2_letSnow_25_53_b2
    refine pq_if (fun _ => ?_) (fun _ => ?_)
    · exact pq_s hJ
    · refine pq_b (fy_X4_isGone _ _) (fun _ s2 gs2 => ?_)
      have js2 := fr_t hJ gs2 rfl
      refine pq_if (fun _ => ?_) (fun _ => ?_)
      · refine pq_c (fun _ => ?_)
        refine pq_n (fun s4 es4 => ?_)
        have js4 : Fr cDy 590295810358705651712 s0 s4 := by rw [es4]; exact (fr_i js2 69 rfl rfl)
        exact ih _ _ _ js4
      · exact ih _ _ _ js2
theorem fy_X2_letSnow_25_53 (a2 : Int32) (s : Sg) : PQ (f_X2_letSnow_25_53 a2 s) (fun _ s9 => Fr cDy 590295810358705651712 s s9) := by
  have hJ : Fr cDy 590295810358705651712 s s := fr_r
  unfold f_X2_letSnow_25_53
  exact fy_X2_letSnow_25_53_b2 BIG _ _ _ hJ

theorem fy_X3_tryNight_25_53_5  (s : Sg) : PQ (f_X3_tryNight_25_53_5  s) (fun _ s9 => Fr cDy 394604618740805103585049508713956814242998076671113037944218415421399747939157409792 s s9) := by
  have hJ : Fr cDy 394604618740805103585049508713956814242998076671113037944218415421399747939157409792 s s := fr_r
  unfold f_X3_tryNight_25_53_5
  refine pq_if (fun _ => ?_) (fun _ => ?_)
  · refine pq_b (fy_X2_passNight_25_53  _) (fun _ s2 gs2 => ?_)
    have js2 := fr_t hJ gs2 rfl
    refine pq_b (fy_bitCount _ _) (fun _ s4 gs4 => ?_)
    have js4 := fr_t js2 gs4 rfl
    refine pq_b (fy_bitCount _ _) (fun _ s6 gs6 => ?_)
    have js6 := fr_t (fr_i js4 276 rfl rfl) gs6 rfl
    refine pq_n (fun s7 es7 => ?_)
    have js7 : Fr cDy 394604618740805103585049508713956814242998076671113037944218415421399747939157409792 s s7 := by rw [es7]; exact (fr_i js6 277 rfl rfl)
    exact pq_s js7
  · exact pq_s (fr_i hJ 274 rfl rfl)

theorem fy_X3_act_25_53_27_5 (a4 : Int32) (s : Sg) : PQ (f_X3_act_25_53_27_5 a4 s) (fun _ s9 => Fr cDy 462901571989741567727480782611658516432431136540892882601511018905422366405572952064 s s9) := by
  have hJ : Fr cDy 462901571989741567727480782611658516432431136540892882601511018905422366405572952064 s s := fr_r
  unfold f_X3_act_25_53_27_5
  refine pq_c (fun _ => ?_)
  refine pq_if (fun _ => ?_) (fun _ => ?_)
  · refine pq_b (fy_X3_maybeRain_25_53_5 _ _) (fun _ s3 gs3 => ?_)
    have js3 := fr_t hJ gs3 rfl
    exact pq_s js3
  · refine pq_if (fun _ => ?_) (fun _ => ?_)
    · exact pq_s hJ
    · refine pq_if (fun _ => ?_) (fun _ => ?_)
      · exact pq_s hJ
      · refine pq_if (fun _ => ?_) (fun _ => ?_)
        · refine pq_b (fy_X3_tryBuy_25_53_5 _ _ _ _) (fun _ s5 gs5 => ?_)
          have js5 := fr_t hJ gs5 rfl
          exact pq_s js5
        · refine pq_if (fun _ => ?_) (fun _ => ?_)
          · refine pq_b (fy_X3_tryStrew_53_5 _ _ _) (fun _ s7 gs7 => ?_)
            have js7 := fr_t hJ gs7 rfl
            exact pq_s js7
          · refine pq_if (fun _ => ?_) (fun _ => ?_)
            · refine pq_b (fy_X2_clearStep_53 _ _) (fun _ s9 gs9 => ?_)
              have js9 := fr_t hJ gs9 rfl
              exact pq_s js9
            · refine pq_if (fun _ => ?_) (fun _ => ?_)
              · refine pq_b (fy_X2_letSnow_25_53 _ _) (fun _ s11 gs11 => ?_)
                have js11 := fr_t hJ gs11 rfl
                exact pq_s js11
              · refine pq_if (fun _ => ?_) (fun _ => ?_)
                · refine pq_b (fy_X3_tryNight_25_53_5  _) (fun _ s13 gs13 => ?_)
                  have js13 := fr_t hJ gs13 rfl
                  exact pq_s js13
                · exact pq_s hJ

theorem fy_X9_inTruce_53_25_b7 {s0 : Sg} (n : Nat) : ∀ (v2 : Int32) (v3 : Int32) (s : Sg), Fr cDy 0 s0 s → PQ (f_X9_inTruce_53_25_b7 n v2 v3 s) (fun _ s9 => Fr cDy 0 s0 s9) := by
  induction n with
  | zero => intro v2 v3 s _ r s9 e; cases e
  | succ n ih =>
    intro v2 v3 s hJ
    unfold f_X9_inTruce_53_25_b7
    refine pq_if (fun _ => ?_) (fun _ => ?_)
    · exact pq_s hJ
    · refine pq_c (fun _ => ?_)
      refine pq_b (fy_X2_inSight_53 _ _) (fun _ s5 gs5 => ?_)
      have js5 := fr_t hJ gs5 rfl
      refine pq_b (fy_X9_calmAt_25 _ _ _) (fun _ s7 gs7 => ?_)
      have js7 := fr_t js5 gs7 rfl
      refine pq_n (fun x8 _ => ?_)
      exact ih _ _ _ js7
theorem fy_X9_inTruce_53_25  (s : Sg) : PQ (f_X9_inTruce_53_25  s) (fun _ s9 => Fr cDy 0 s s9) := by
  have hJ : Fr cDy 0 s s := fr_r
  unfold f_X9_inTruce_53_25
  refine pq_b (fy_X4_allQuarrels  _) (fun _ s2 gs2 => ?_)
  have js2 := fr_t hJ gs2 rfl
  exact fy_X9_inTruce_53_25_b7 BIG _ _ _ js2

theorem fy_X3_holds_53_27_25 (a3 : Int32) (s : Sg) : PQ (f_X3_holds_53_27_25 a3 s) (fun _ s9 => Fr cDy 0 s s9) := by
  have hJ : Fr cDy 0 s s := fr_r
  unfold f_X3_holds_53_27_25
  refine pq_c (fun _ => ?_)
  refine pq_if (fun _ => ?_) (fun _ => ?_)
  · refine pq_b (fy_X2_lying_53 _ _) (fun _ s3 gs3 => ?_)
    have js3 := fr_t hJ gs3 rfl
    refine pq_if (fun _ => ?_) (fun _ => ?_)
    · exact pq_s js3
    · exact pq_s js3
  · refine pq_if (fun _ => ?_) (fun _ => ?_)
    · refine pq_b (fy_X2_lying_53 _ _) (fun _ s5 gs5 => ?_)
      have js5 := fr_t hJ gs5 rfl
      refine pq_if (fun _ => ?_) (fun _ => ?_)
      · exact pq_s js5
      · exact pq_s js5
    · refine pq_if (fun _ => ?_) (fun _ => ?_)
      · refine pq_b (fy_X11_has _ _ _) (fun _ s7 gs7 => ?_)
        have js7 := fr_t hJ gs7 rfl
        refine pq_c (fun _ => ?_)
        exact pq_s js7
      · refine pq_if (fun _ => ?_) (fun _ => ?_)
        · refine pq_b (fy_X9_inTruce_53_25  _) (fun _ s9 gs9 => ?_)
          have js9 := fr_t hJ gs9 rfl
          refine pq_b (fy_X11_has _ _ _) (fun _ s11 gs11 => ?_)
          have js11 := fr_t js9 gs11 rfl
          refine pq_c (fun _ => ?_)
          exact pq_s js11
        · refine pq_b (fy_X2_lying_53 _ _) (fun _ s13 gs13 => ?_)
          have js13 := fr_t hJ gs13 rfl
          refine pq_if (fun _ => ?_) (fun _ => ?_)
          · exact pq_s js13
          · exact pq_s js13

theorem fy_X3_behindStep_25_53_27_5 (a4 : Int32) (s : Sg) : PQ (f_X3_behindStep_25_53_27_5 a4 s) (fun _ s9 => Fr cDy 524288 s s9) := by
  have hJ : Fr cDy 524288 s s := fr_r
  unfold f_X3_behindStep_25_53_27_5
  refine pq_c (fun _ => ?_)
  refine pq_if (fun _ => ?_) (fun _ => ?_)
  · refine pq_b (fy_X3_holds_53_27_25 _ _) (fun _ s3 gs3 => ?_)
    have js3 := fr_t hJ gs3 rfl
    refine pq_if (fun _ => ?_) (fun _ => ?_)
    · exact pq_s js3
    · exact pq_s js3
  · refine pq_if (fun _ => ?_) (fun _ => ?_)
    · refine pq_n (fun s4 es4 => ?_)
      have js4 : Fr cDy 524288 s s4 := by rw [es4]; exact (fr_i hJ 19 rfl rfl)
      exact pq_s js4
    · refine pq_if (fun _ => ?_) (fun _ => ?_)
      · exact pq_s hJ
      · exact pq_s hJ

theorem fy_X3_run_25_53_27_5_b12 {s0 : Sg} (n : Nat) : ∀ (v5 : Int32) (v6 : Int32) (s : Sg), Fr cDy 967540170946815720915544129501361669915712600591546312926688851904004924867082715136 s0 s → PQ (f_X3_run_25_53_27_5_b12 n v5 v6 s) (fun _ s9 => Fr cDy 967540170946815720915544129501361669915712600591546312926688851904004924867082715136 s0 s9) := by
  induction n with
  | zero => intro v5 v6 s _ r s9 e; cases e
  | succ n ih =>
    intro v5 v6 s hJ
    unfold f_X3_run_25_53_27_5_b12
    refine pq_if (fun _ => ?_) (fun _ => ?_)
    · exact pq_s hJ
    · refine pq_if (fun _ => ?_) (fun _ => ?_)
      · exact pq_s hJ
      · refine pq_c (fun _ => ?_)
        refine pq_if (fun _ => ?_) (fun _ => ?_)
        · refine pq_b (fy_X3_behindEnd_27_5 _ _) (fun _ s5 gs5 => ?_)
          have js5 := fr_t hJ gs5 rfl
          exact ih _ _ _ js5
        · refine pq_if (fun _ => ?_) (fun _ => ?_)
          · refine pq_b (fy_X3_act_25_53_27_5 _ _) (fun _ s7 gs7 => ?_)
            have js7 := fr_t (fr_i hJ 273 rfl rfl) gs7 rfl
            refine pq_b (fy_X3_behindStep_25_53_27_5 _ _) (fun _ s9 gs9 => ?_)
            have js9 := fr_t js7 gs9 rfl
            exact ih _ _ _ js9
          · exact pq_s (fr_i hJ 278 rfl rfl)
theorem fy_X3_run_25_53_27_5 (a4 : Int32) (s : Sg) : PQ (f_X3_run_25_53_27_5 a4 s) (fun _ s9 => Fr cDy 967540170946815720915544129501361669915712600591546312926688851904004924867082715136 s s9) := by
  have hJ : Fr cDy 967540170946815720915544129501361669915712600591546312926688851904004924867082715136 s s := fr_r
  unfold f_X3_run_25_53_27_5
  refine pq_b (fy_X3_begin_5 _ _) (fun _ s2 gs2 => ?_)
  have js2 := fr_t hJ gs2 rfl
  exact fy_X3_run_25_53_27_5_b12 BIG _ _ _ js2
/-! what an act of the reference leaves alone, the tallies apart: printed by genA2.py -/
def cdQ (c k : Nat) : Nat := if c = 11 then 300 + k else c
theorem fq_X12_isGone (a1 : Int32) (s : Sg) : PQ (f_X12_isGone a1 s) (fun _ s9 => Fr cdQ 0 s s9) := by
  have hJ : Fr cdQ 0 s s := fr_r
  unfold f_X12_isGone
  refine pq_if (fun _ => ?_) (fun _ => ?_)
  · exact pq_s hJ
  · exact pq_s hJ
theorem fq_X12_quarrelRow (a0 : Int32) (s : Sg) : PQ (f_X12_quarrelRow a0 s) (fun _ s9 => Fr cdQ 0 s s9) := by
  have hJ : Fr cdQ 0 s s := fr_r
  unfold f_X12_quarrelRow
  exact pq_s hJ
theorem fq_X12_quarrelHouse (a0 : Int32) (a1 : Int32) (s : Sg) : PQ (f_X12_quarrelHouse a0 a1 s) (fun _ s9 => Fr cdQ 0 s s9) := by
  have hJ : Fr cdQ 0 s s := fr_r
  unfold f_X12_quarrelHouse
  refine pq_b (fq_X12_quarrelRow _ _) (fun _ s2 gs2 => ?_)
  have js2 := fr_t hJ gs2 rfl
  exact pq_s js2
theorem fq_X12_isAt (a1 : Int32) (a2 : Int32) (s : Sg) : PQ (f_X12_isAt a1 a2 s) (fun _ s9 => Fr cdQ 0 s s9) := by
  have hJ : Fr cdQ 0 s s := fr_r
  unfold f_X12_isAt
  refine pq_b (fq_X12_quarrelHouse _ _ _) (fun _ s2 gs2 => ?_)
  have js2 := fr_t hJ gs2 rfl
  refine pq_c (fun _ => ?_)
  refine pq_if (fun _ => ?_) (fun _ => ?_)
  · exact pq_s js2
  · refine pq_b (fq_X12_quarrelHouse _ _ _) (fun _ s5 gs5 => ?_)
    have js5 := fr_t js2 gs5 rfl
    refine pq_c (fun _ => ?_)
    refine pq_if (fun _ => ?_) (fun _ => ?_)
    · exact pq_s js5
    · exact pq_s js5
theorem fq_X12_houseRow (a0 : Int32) (s : Sg) : PQ (f_X12_houseRow a0 s) (fun _ s9 => Fr cdQ 0 s s9) := by
  have hJ : Fr cdQ 0 s s := fr_r
  unfold f_X12_houseRow
  exact pq_s hJ
theorem fq_X12_grainsOn (a1 : Int32) (s : Sg) : PQ (f_X12_grainsOn a1 s) (fun _ s9 => Fr cdQ 0 s s9) := by
  have hJ : Fr cdQ 0 s s := fr_r
  unfold f_X12_grainsOn
  refine pq_b (fq_X12_houseRow _ _) (fun _ s2 gs2 => ?_)
  have js2 := fr_t hJ gs2 rfl
  refine pq_c (fun _ => ?_)
  refine pq_b (fq_X12_houseRow _ _) (fun _ s5 gs5 => ?_)
  have js5 := fr_t js2 gs5 rfl
  refine pq_c (fun _ => ?_)
  exact pq_s js5
theorem fq_X12_needOf (a1 : Int32) (s : Sg) : PQ (f_X12_needOf a1 s) (fun _ s9 => Fr cdQ 0 s s9) := by
  have hJ : Fr cdQ 0 s s := fr_r
  unfold f_X12_needOf
  refine pq_if (fun _ => ?_) (fun _ => ?_)
  · exact pq_s hJ
  · refine pq_b (fq_X12_quarrelRow _ _) (fun _ s2 gs2 => ?_)
    have js2 := fr_t hJ gs2 rfl
    refine pq_c (fun _ => ?_)
    exact pq_s js2
theorem fq_X12_hasAt_b27 {s0 : Sg} (n : Nat) : ∀ (v1 : Int32) (v2 : Int32) (v3 : Int32) (v4 : Int32) (s : Sg), Fr cdQ 0 s0 s → PQ (f_X12_hasAt_b27 n v1 v2 v3 v4 s) (fun _ s9 => Fr cdQ 0 s0 s9) := by
  induction n with
  | zero => intro v1 v2 v3 v4 s _ r s9 e; cases e
  | succ n ih =>
    intro v1 v2 v3 v4 s hJ
    unfold f_X12_hasAt_b27
    refine pq_if (fun _ => ?_) (fun _ => ?_)
    · refine pq_b (fq_X12_needOf _ _) (fun _ s7 gs7 => ?_)
      have js7 := fr_t hJ gs7 rfl
      exact pq_s js7
    · refine pq_b (fq_X12_isAt _ _ _) (fun _ s9 gs9 => ?_)
      have js9 := fr_t hJ gs9 rfl
      refine pq_if (fun _ => ?_) (fun _ => ?_)
      · exact ih _ _ _ _ _ js9
      · refine pq_b (fq_X12_needOf _ _) (fun _ s11 gs11 => ?_)
        have js11 := fr_t js9 gs11 rfl
        refine pq_n (fun x12 _ => ?_)
        exact ih _ _ _ _ _ js11
theorem fq_X12_hasAt (a1 : Int32) (a2 : Int32) (s : Sg) : PQ (f_X12_hasAt a1 a2 s) (fun _ s9 => Fr cdQ 0 s s9) := by
  have hJ : Fr cdQ 0 s s := fr_r
  unfold f_X12_hasAt
  refine pq_b (fq_X12_houseRow _ _) (fun _ s2 gs2 => ?_)
  have js2 := fr_t hJ gs2 rfl
  refine pq_c (fun _ => ?_)
  refine pq_if (fun _ => ?_) (fun _ => ?_)
  · refine pq_b (fq_X12_grainsOn _ _) (fun _ s5 gs5 => ?_)
    have js5 := fr_t js2 gs5 rfl
    exact fq_X12_hasAt_b27 BIG _ _ _ _ _ js5
  · exact fq_X12_hasAt_b27 BIG _ _ _ _ _ js2
theorem fq_X12_isFull (a1 : Int32) (a2 : Int32) (s : Sg) : PQ (f_X12_isFull a1 a2 s) (fun _ s9 => Fr cdQ 0 s s9) := by
  have hJ : Fr cdQ 0 s s := fr_r
  unfold f_X12_isFull
  refine pq_b (fq_X12_quarrelHouse _ _ _) (fun _ s2 gs2 => ?_)
  have js2 := fr_t hJ gs2 rfl
  refine pq_c (fun _ => ?_)
  refine pq_b (fq_X12_isGone _ _) (fun _ s5 gs5 => ?_)
  have js5 := fr_t js2 gs5 rfl
  refine pq_if (fun _ => ?_) (fun _ => ?_)
  · refine pq_b (fq_X12_hasAt _ _ _) (fun _ s7 gs7 => ?_)
    have js7 := fr_t js5 gs7 rfl
    refine pq_b (fq_X12_needOf _ _) (fun _ s9 gs9 => ?_)
    have js9 := fr_t js7 gs9 rfl
    refine pq_if (fun _ => ?_) (fun _ => ?_)
    · exact pq_s js9
    · exact pq_s js9
  · refine pq_if (fun _ => ?_) (fun _ => ?_)
    · exact pq_s js5
    · exact pq_s js5
theorem fq_X12_hasPeace (a1 : Int32) (s : Sg) : PQ (f_X12_hasPeace a1 s) (fun _ s9 => Fr cdQ 0 s s9) := by
  have hJ : Fr cdQ 0 s s := fr_r
  unfold f_X12_hasPeace
  refine pq_b (fq_X12_isFull _ _ _) (fun _ s2 gs2 => ?_)
  have js2 := fr_t hJ gs2 rfl
  refine pq_if (fun _ => ?_) (fun _ => ?_)
  · exact pq_s js2
  · refine pq_b (fq_X12_isFull _ _ _) (fun _ s4 gs4 => ?_)
    have js4 := fr_t js2 gs4 rfl
    refine pq_if (fun _ => ?_) (fun _ => ?_)
    · exact pq_s js4
    · exact pq_s js4
theorem fq_X12_hasRoom (a1 : Int32) (a2 : Int32) (s : Sg) : PQ (f_X12_hasRoom a1 a2 s) (fun _ s9 => Fr cdQ 0 s s9) := by
  have hJ : Fr cdQ 0 s s := fr_r
  unfold f_X12_hasRoom
  refine pq_b (fq_X12_grainsOn _ _) (fun _ s2 gs2 => ?_)
  have js2 := fr_t hJ gs2 rfl
  refine pq_if (fun _ => ?_) (fun _ => ?_)
  · exact pq_s js2
  · exact pq_s js2
theorem fq_X12_strews (a1 : Int32) (a2 : Int32) (s : Sg) : PQ (f_X12_strews a1 a2 s) (fun _ s9 => Fr cdQ 2 s s9) := by
  have hJ : Fr cdQ 2 s s := fr_r
  unfold f_X12_strews
  refine pq_b (fq_X12_houseRow _ _) (fun _ s2 gs2 => ?_)
  have js2 := fr_t hJ gs2 rfl
  refine pq_c (fun _ => ?_)
  refine pq_n (fun s4 es4 => ?_)
  have js4 : Fr cdQ 2 s s4 := by rw [es4]; exact (fr_i js2 1 rfl rfl)
  exact pq_s (fr_i js4 1 rfl rfl)
theorem fq_X12_buys (a1 : Int32) (a2 : Int32) (a3 : Int32) (s : Sg) : PQ (f_X12_buys a1 a2 a3 s) (fun _ s9 => Fr cdQ 2 s s9) := by
  have hJ : Fr cdQ 2 s s := fr_r
  unfold f_X12_buys
  refine pq_c (fun _ => ?_)
  refine pq_n (fun x2 _ => ?_)
  refine pq_c (fun _ => ?_)
  refine pq_n (fun s4 es4 => ?_)
  have js4 : Fr cdQ 2 s s4 := by rw [es4]; exact (fr_i hJ 1 rfl rfl)
  refine pq_c (fun _ => ?_)
  refine pq_n (fun s6 es6 => ?_)
  have js6 : Fr cdQ 2 s s6 := by rw [es6]; exact (fr_i js4 1 rfl rfl)
  refine pq_b (fq_X12_strews _ _ _) (fun _ s8 gs8 => ?_)
  have js8 := fr_t js6 gs8 rfl
  refine pq_b (fq_X12_houseRow _ _) (fun _ s10 gs10 => ?_)
  have js10 := fr_t js8 gs10 rfl
  refine pq_c (fun _ => ?_)
  refine pq_n (fun s12 es12 => ?_)
  have js12 : Fr cdQ 2 s s12 := by rw [es12]; exact (fr_i js10 1 rfl rfl)
  exact pq_s (fr_i js12 1 rfl rfl)
theorem fq_X12_sweeps (a1 : Int32) (s : Sg) : PQ (f_X12_sweeps a1 s) (fun _ s9 => Fr cdQ 2 s s9) := by
  have hJ : Fr cdQ 2 s s := fr_r
  unfold f_X12_sweeps
  refine pq_b (fq_X12_grainsOn _ _) (fun _ s2 gs2 => ?_)
  have js2 := fr_t hJ gs2 rfl
  refine pq_b (fq_X12_houseRow _ _) (fun _ s4 gs4 => ?_)
  have js4 := fr_t js2 gs4 rfl
  refine pq_c (fun _ => ?_)
  refine pq_b (fq_X12_houseRow _ _) (fun _ s7 gs7 => ?_)
  have js7 := fr_t (fr_i js4 1 rfl rfl) gs7 rfl
  refine pq_c (fun _ => ?_)
  refine pq_n (fun s9 es9 => ?_)
  have js9 : Fr cdQ 2 s s9 := by rw [es9]; exact (fr_i js7 1 rfl rfl)
  exact pq_s (fr_i js9 1 rfl rfl)
theorem fq_X12_brings (a1 : Int32) (a2 : Int32) (a3 : Int32) (s : Sg) : PQ (f_X12_brings a1 a2 a3 s) (fun _ s9 => Fr cdQ 2 s s9) := by
  have hJ : Fr cdQ 2 s s := fr_r
  unfold f_X12_brings
  refine pq_b (fq_X12_houseRow _ _) (fun _ s2 gs2 => ?_)
  have js2 := fr_t hJ gs2 rfl
  refine pq_c (fun _ => ?_)
  refine pq_n (fun x4 _ => ?_)
  refine pq_b (fq_X12_houseRow _ _) (fun _ s6 gs6 => ?_)
  have js6 := fr_t js2 gs6 rfl
  refine pq_c (fun _ => ?_)
  refine pq_n (fun x8 _ => ?_)
  refine pq_b (fq_X12_houseRow _ _) (fun _ s10 gs10 => ?_)
  have js10 := fr_t js6 gs10 rfl
  refine pq_c (fun _ => ?_)
  refine pq_n (fun s12 es12 => ?_)
  have js12 : Fr cdQ 2 s s12 := by rw [es12]; exact (fr_i js10 1 rfl rfl)
  refine pq_b (fq_X12_houseRow _ _) (fun _ s14 gs14 => ?_)
  have js14 := fr_t js12 gs14 rfl
  refine pq_c (fun _ => ?_)
  refine pq_n (fun s16 es16 => ?_)
  have js16 : Fr cdQ 2 s s16 := by rw [es16]; exact (fr_i js14 1 rfl rfl)
  refine pq_b (fq_X12_houseRow _ _) (fun _ s18 gs18 => ?_)
  have js18 := fr_t js16 gs18 rfl
  refine pq_c (fun _ => ?_)
  refine pq_n (fun s20 es20 => ?_)
  have js20 : Fr cdQ 2 s s20 := by rw [es20]; exact (fr_i js18 1 rfl rfl)
  refine pq_b (fq_X12_houseRow _ _) (fun _ s22 gs22 => ?_)
  have js22 := fr_t js20 gs22 rfl
  refine pq_c (fun _ => ?_)
  refine pq_n (fun s24 es24 => ?_)
  have js24 : Fr cdQ 2 s s24 := by rw [es24]; exact (fr_i js22 1 rfl rfl)
  exact pq_s js24
theorem fq_X12_rains_b4 {s0 : Sg} (n : Nat) : ∀ (v1 : Int32) (v2 : Int32) (s : Sg), Fr cdQ 2 s0 s → PQ (f_X12_rains_b4 n v1 v2 s) (fun _ s9 => Fr cdQ 2 s0 s9) := by
  induction n with
  | zero => intro v1 v2 s _ r s9 e; cases e
  | succ n ih =>
    intro v1 v2 s hJ
    unfold f_X12_rains_b4
    refine pq_if (fun _ => ?_) (fun _ => ?_)
    · refine pq_n (fun s1 es1 => ?_)
      have js1 : Fr cdQ 2 s0 s1 := by rw [es1]; exact (fr_i (fr_i hJ 1 rfl rfl) 1 rfl rfl)
      exact pq_s js1
    · refine pq_b (fq_X12_houseRow _ _) (fun _ s3 gs3 => ?_)
      have js3 := fr_t hJ gs3 rfl
      refine pq_c (fun _ => ?_)
      refine pq_n (fun x5 _ => ?_)
      refine pq_c (fun _ => ?_)
      refine pq_n (fun x7 _ => ?_)
      refine pq_n (fun s8 es8 => ?_)
      have js8 : Fr cdQ 2 s0 s8 := by rw [es8]; exact (fr_i js3 1 rfl rfl)
      refine pq_n (fun s9 es9 => ?_)
      have js9 : Fr cdQ 2 s0 s9 := by rw [es9]; exact (fr_i js8 1 rfl rfl)
      exact ih _ _ _ js9
theorem fq_X12_rains  (s : Sg) : PQ (f_X12_rains  s) (fun _ s9 => Fr cdQ 2 s s9) := by
  have hJ : Fr cdQ 2 s s := fr_r
  unfold f_X12_rains
  exact fq_X12_rains_b4 BIG _ _ _ hJ
theorem fq_X12_snows_b2 {s0 : Sg} (n : Nat) : ∀ (v1 : Int32) (v2 : Int32) (s : Sg), Fr cdQ 2 s0 s → PQ (f_X12_snows_b2 n v1 v2 s) (fun _ s9 => Fr cdQ 2 s0 s9) := by
  induction n with
  | zero => intro v1 v2 s _ r s9 e; cases e
  | succ n ih =>
    intro v1 v2 s hJ
    unfold f_X12_snows_b2
    refine pq_if (fun _ => ?_) (fun _ => ?_)
    · exact pq_s hJ
    · refine pq_b (fq_X12_isGone _ _) (fun _ s2 gs2 => ?_)
      have js2 := fr_t hJ gs2 rfl
      refine pq_if (fun _ => ?_) (fun _ => ?_)
      · refine pq_b (fq_X12_houseRow _ _) (fun _ s4 gs4 => ?_)
        have js4 := fr_t js2 gs4 rfl
        refine pq_b (fq_X12_houseRow _ _) (fun _ s6 gs6 => ?_)
        have js6 := fr_t js4 gs6 rfl
        refine pq_c (fun _ => ?_)
        refine pq_c (fun _ => ?_)
        refine pq_n (fun s9 es9 => ?_)
        have js9 : Fr cdQ 2 s0 s9 := by rw [es9]; exact (fr_i js6 1 rfl rfl)
        exact ih _ _ _ js9
      · exact ih _ _ _ js2
theorem fq_X12_snows (a1 : Int32) (s : Sg) : PQ (f_X12_snows a1 s) (fun _ s9 => Fr cdQ 2 s s9) := by
  have hJ : Fr cdQ 2 s s := fr_r
  unfold f_X12_snows
  exact fq_X12_snows_b2 BIG _ _ _ hJ
theorem fq_X12_nightGoes_b269 {s0 : Sg} (k_157 : Int32 → Sg → Option (Unit × Sg)) (hk_157 : ∀ (v1 : Int32) (s : Sg), Fr cdQ 3 s0 s → PQ (k_157 v1 s) (fun _ s9 => Fr cdQ 3 s0 s9)) (v1 : Int32) (v2 : Int32) (t0 : Int32) (t1 : Int32) (s : Sg) (hJ : Fr cdQ 3 s0 s) : PQ (f_X12_nightGoes_b269 k_157 v1 v2 t0 t1 s) (fun _ s9 => Fr cdQ 3 s0 s9) := by
  unfold f_X12_nightGoes_b269
  refine pq_c (fun _ => ?_)
  refine pq_c (fun _ => ?_)
  refine pq_n (fun s13 es13 => ?_)
  have js13 : Fr cdQ 3 s0 s13 := by rw [es13]; exact (fr_i (fr_i hJ 0 rfl rfl) 1 rfl rfl)
  exact hk_157 _ _ js13
theorem fq_X12_nightGoes_b243 {s0 : Sg} (k_157 : Int32 → Sg → Option (Unit × Sg)) (hk_157 : ∀ (v1 : Int32) (s : Sg), Fr cdQ 3 s0 s → PQ (k_157 v1 s) (fun _ s9 => Fr cdQ 3 s0 s9)) (v1 : Int32) (v2 : Int32) (v3 : Int32) (t0 : Int32) (t1 : Int32) (s : Sg) (hJ : Fr cdQ 3 s0 s) : PQ (f_X12_nightGoes_b243 k_157 v1 v2 v3 t0 t1 s) (fun _ s9 => Fr cdQ 3 s0 s9) := by
  unfold f_X12_nightGoes_b243
  refine pq_c (fun _ => ?_)
  refine pq_if (fun _ => ?_) (fun _ => ?_)
  · exact fq_X12_nightGoes_b269 _ hk_157 _ _ _ _ _ (fr_i hJ 0 rfl rfl)
  · exact fq_X12_nightGoes_b269 _ hk_157 _ _ _ _ _ (fr_i hJ 0 rfl rfl)
theorem fq_X12_nightGoes_b221 {s0 : Sg} (k_157 : Int32 → Sg → Option (Unit × Sg)) (hk_157 : ∀ (v1 : Int32) (s : Sg), Fr cdQ 3 s0 s → PQ (k_157 v1 s) (fun _ s9 => Fr cdQ 3 s0 s9)) (v1 : Int32) (v2 : Int32) (v3 : Int32) (s : Sg) (hJ : Fr cdQ 3 s0 s) : PQ (f_X12_nightGoes_b221 k_157 v1 v2 v3 s) (fun _ s9 => Fr cdQ 3 s0 s9) := by
  unfold f_X12_nightGoes_b221
  refine pq_c (fun _ => ?_)
  refine pq_if (fun _ => ?_) (fun _ => ?_)
  · exact fq_X12_nightGoes_b243 _ hk_157 _ _ _ _ _ _ hJ
  · exact fq_X12_nightGoes_b243 _ hk_157 _ _ _ _ _ _ hJ
theorem fq_X12_nightGoes_b157 {s0 : Sg} (n : Nat) : ∀ (v1 : Int32) (s : Sg), Fr cdQ 3 s0 s → PQ (f_X12_nightGoes_b157 n v1 s) (fun _ s9 => Fr cdQ 3 s0 s9) := by
  induction n with
  | zero => intro v1 s _ r s9 e; cases e
  | succ n ih =>
    intro v1 s hJ
    unfold f_X12_nightGoes_b157
    refine pq_if (fun _ => ?_) (fun _ => ?_)
    · refine pq_n (fun s1 es1 => ?_)
      have js1 : Fr cdQ 3 s0 s1 := by rw [es1]; exact (fr_i (fr_i hJ 1 rfl rfl) 1 rfl rfl)
      exact pq_s js1
    · refine pq_b (fq_X12_quarrelRow _ _) (fun _ s3 gs3 => ?_)
      have js3 := fr_t hJ gs3 rfl
      refine pq_c (fun _ => ?_)
      refine pq_n (fun x5 _ => ?_)
      refine pq_b (fq_X12_hasPeace _ _) (fun _ s7 gs7 => ?_)
      have js7 := fr_t js3 gs7 rfl
      refine pq_if (fun _ => ?_) (fun _ => ?_)
      · refine pq_if (fun _ => ?_) (fun _ => ?_)
        · refine pq_n (fun s8 es8 => ?_)
          have js8 : Fr cdQ 3 s0 s8 := by rw [es8]; exact (fr_i js7 1 rfl rfl)
          exact fq_X12_nightGoes_b221 _ ih _ _ _ _ js8
        · exact fq_X12_nightGoes_b221 _ ih _ _ _ _ js7
      · refine pq_n (fun s14 es14 => ?_)
        have js14 : Fr cdQ 3 s0 s14 := by rw [es14]; exact (fr_i js7 1 rfl rfl)
        exact fq_X12_nightGoes_b221 _ ih _ _ _ _ js14
theorem fq_X12_nightGoes_b73 {s0 : Sg} (n : Nat) : ∀ (v1 : Int32) (s : Sg), Fr cdQ 3 s0 s → PQ (f_X12_nightGoes_b73 n v1 s) (fun _ s9 => Fr cdQ 3 s0 s9) := by
  induction n with
  | zero => intro v1 s _ r s9 e; cases e
  | succ n ih =>
    intro v1 s hJ
    unfold f_X12_nightGoes_b73
    refine pq_if (fun _ => ?_) (fun _ => ?_)
    · exact fq_X12_nightGoes_b157 BIG _ _ (fr_i (fr_i hJ 0 rfl rfl) 0 rfl rfl)
    · refine pq_b (fq_X12_houseRow _ _) (fun _ s16 gs16 => ?_)
      have js16 := fr_t hJ gs16 rfl
      refine pq_c (fun _ => ?_)
      refine pq_c (fun _ => ?_)
      refine pq_n (fun x19 _ => ?_)
      refine pq_n (fun s20 es20 => ?_)
      have js20 : Fr cdQ 3 s0 s20 := by rw [es20]; exact (fr_i js16 1 rfl rfl)
      refine pq_n (fun s21 es21 => ?_)
      have js21 : Fr cdQ 3 s0 s21 := by rw [es21]; exact (fr_i js20 1 rfl rfl)
      exact ih _ _ (fr_i js21 1 rfl rfl)
theorem fq_X12_nightGoes_b2 {s0 : Sg} (n : Nat) : ∀ (v1 : Int32) (s : Sg), Fr cdQ 3 s0 s → PQ (f_X12_nightGoes_b2 n v1 s) (fun _ s9 => Fr cdQ 3 s0 s9) := by
  induction n with
  | zero => intro v1 s _ r s9 e; cases e
  | succ n ih =>
    intro v1 s hJ
    unfold f_X12_nightGoes_b2
    refine pq_if (fun _ => ?_) (fun _ => ?_)
    · exact fq_X12_nightGoes_b73 BIG _ _ hJ
    · refine pq_c (fun _ => ?_)
      refine pq_b (fq_X12_houseRow _ _) (fun _ s24 gs24 => ?_)
      have js24 := fr_t hJ gs24 rfl
      refine pq_c (fun _ => ?_)
      refine pq_if (fun _ => ?_) (fun _ => ?_)
      · refine pq_c (fun _ => ?_)
        refine pq_c (fun _ => ?_)
        refine pq_b (fq_X12_brings _ _ _ _) (fun _ s29 gs29 => ?_)
        have js29 := fr_t js24 gs29 rfl
        exact ih _ _ js29
      · exact ih _ _ js24
theorem fq_X12_nightGoes  (s : Sg) : PQ (f_X12_nightGoes  s) (fun _ s9 => Fr cdQ 3 s s9) := by
  have hJ : Fr cdQ 3 s s := fr_r
  unfold f_X12_nightGoes
  exact fq_X12_nightGoes_b2 BIG _ _ hJ
theorem fq_X12_draw  (s : Sg) : PQ (f_X12_draw  s) (fun _ s9 => Fr cdQ 1 s s9) := by
  have hJ : Fr cdQ 1 s s := fr_r
  unfold f_X12_draw
  refine pq_n (fun s1 es1 => ?_)
  have js1 : Fr cdQ 1 s s1 := by rw [es1]; exact (fr_i hJ 0 rfl rfl)
  exact pq_s js1
theorem fq_X12_does (a1 : Int32) (s : Sg) : PQ (f_X12_does a1 s) (fun _ s9 => Fr cdQ 28518503668682805207758239637731294254720557511323107508905966290961338196686713886567563267 s s9) := by
  have hJ : Fr cdQ 28518503668682805207758239637731294254720557511323107508905966290961338196686713886567563267 s s := fr_r
  unfold f_X12_does
  refine pq_c (fun _ => ?_)
  refine pq_n (fun x2 _ => ?_)
  refine pq_c (fun _ => ?_)
  refine pq_n (fun x4 _ => ?_)
  refine pq_c (fun _ => ?_)
  refine pq_if (fun _ => ?_) (fun _ => ?_)
  · refine pq_b (fq_X12_draw  _) (fun _ s7 gs7 => ?_)
    have js7 := fr_t hJ gs7 rfl
    refine pq_if (fun _ => ?_) (fun _ => ?_)
    · refine pq_b (fq_X12_rains  _) (fun _ s9 gs9 => ?_)
      have js9 := fr_t js7 gs9 rfl
      exact pq_s (fr_i js9 301 rfl rfl)
    · exact pq_s js7
  · refine pq_if (fun _ => ?_) (fun _ => ?_)
    · exact pq_s hJ
    · refine pq_if (fun _ => ?_) (fun _ => ?_)
      · exact pq_s hJ
      · refine pq_if (fun _ => ?_) (fun _ => ?_)
        · exact pq_s hJ
        · refine pq_if (fun _ => ?_) (fun _ => ?_)
          · exact pq_s hJ
          · refine pq_if (fun _ => ?_) (fun _ => ?_)
            · exact pq_s hJ
            · refine pq_if (fun _ => ?_) (fun _ => ?_)
              · exact pq_s hJ
              · refine pq_if (fun _ => ?_) (fun _ => ?_)
                · exact pq_s hJ
                · refine pq_if (fun _ => ?_) (fun _ => ?_)
                  · exact pq_s hJ
                  · refine pq_if (fun _ => ?_) (fun _ => ?_)
                    · exact pq_s hJ
                    · refine pq_if (fun _ => ?_) (fun _ => ?_)
                      · exact pq_s hJ
                      · refine pq_if (fun _ => ?_) (fun _ => ?_)
                        · exact pq_s hJ
                        · refine pq_if (fun _ => ?_) (fun _ => ?_)
                          · exact pq_s hJ
                          · refine pq_if (fun _ => ?_) (fun _ => ?_)
                            · exact pq_s hJ
                            · refine pq_if (fun _ => ?_) (fun _ => ?_)
                              · exact pq_s hJ
                              · refine pq_if (fun _ => ?_) (fun _ => ?_)
                                · refine pq_b (fq_X12_hasRoom _ _ _) (fun _ s11 gs11 => ?_)
                                  have js11 := fr_t hJ gs11 rfl
                                  refine pq_if (fun _ => ?_) (fun _ => ?_)
                                  · exact pq_s js11
                                  · refine pq_b (fq_X12_strews _ _ _) (fun _ s13 gs13 => ?_)
                                    have js13 := fr_t js11 gs13 rfl
                                    exact pq_s js13
                                · refine pq_if (fun _ => ?_) (fun _ => ?_)
                                  · refine pq_b (fq_X12_hasRoom _ _ _) (fun _ s15 gs15 => ?_)
                                    have js15 := fr_t hJ gs15 rfl
                                    refine pq_if (fun _ => ?_) (fun _ => ?_)
                                    · exact pq_s js15
                                    · refine pq_c (fun _ => ?_)
                                      refine pq_c (fun _ => ?_)
                                      refine pq_if (fun _ => ?_) (fun _ => ?_)
                                      · refine pq_b (fq_X12_buys _ _ _ _) (fun _ s19 gs19 => ?_)
                                        have js19 := fr_t js15 gs19 rfl
                                        exact pq_s js19
                                      · exact pq_s js15
                                  · refine pq_if (fun _ => ?_) (fun _ => ?_)
                                    · refine pq_b (fq_X12_sweeps _ _) (fun _ s21 gs21 => ?_)
                                      have js21 := fr_t hJ gs21 rfl
                                      refine pq_if (fun _ => ?_) (fun _ => ?_)
                                      · exact pq_s js21
                                      · exact pq_s js21
                                    · refine pq_if (fun _ => ?_) (fun _ => ?_)
                                      · refine pq_b (fq_X12_snows _ _) (fun _ s23 gs23 => ?_)
                                        have js23 := fr_t hJ gs23 rfl
                                        exact pq_s js23
                                      · refine pq_if (fun _ => ?_) (fun _ => ?_)
                                        · refine pq_if (fun _ => ?_) (fun _ => ?_)
                                          · exact pq_s hJ
                                          · refine pq_b (fq_X12_nightGoes  _) (fun _ s25 gs25 => ?_)
                                            have js25 := fr_t hJ gs25 rfl
                                            refine pq_n (fun s26 es26 => ?_)
                                            have js26 : Fr cdQ 28518503668682805207758239637731294254720557511323107508905966290961338196686713886567563267 s s26 := by rw [es26]; exact (fr_i js25 302 rfl rfl)
                                            refine pq_n (fun s27 es27 => ?_)
                                            have js27 : Fr cdQ 28518503668682805207758239637731294254720557511323107508905966290961338196686713886567563267 s s27 := by rw [es27]; exact (fr_i js26 303 rfl rfl)
                                            exact pq_s js27
                                        · exact pq_s hJ
/-! what strew, buy, sweep, rain leave alone on the side of the class: printed by genA3.py -/
theorem fy_X11_within (a0 : Int32) (a1 : Int32) (a2 : Int32) (s : Sg) : PQ (f_X11_within a0 a1 a2 s) (fun _ s9 => Fr cDy 0 s s9) := by
  have hJ : Fr cDy 0 s s := fr_r
  unfold f_X11_within
  refine pq_if (fun _ => ?_) (fun _ => ?_)
  · exact pq_s hJ
  · refine pq_if (fun _ => ?_) (fun _ => ?_)
    · exact pq_s hJ
    · exact pq_s hJ
theorem fy_X11_refuse (a1 : Int32) (s : Sg) : PQ (f_X11_refuse a1 s) (fun _ s9 => Fr cDy 1 s s9) := by
  have hJ : Fr cDy 1 s s := fr_r
  unfold f_X11_refuse
  exact pq_s (fr_i hJ 0 rfl rfl)
theorem fy_X11_answer (a1 : Int32) (s : Sg) : PQ (f_X11_answer a1 s) (fun _ s9 => Fr cDy 1 s s9) := by
  have hJ : Fr cDy 1 s s := fr_r
  unfold f_X11_answer
  exact pq_s (fr_i hJ 0 rfl rfl)
theorem fy_X11_isHouse (a1 : Int32) (s : Sg) : PQ (f_X11_isHouse a1 s) (fun _ s9 => Fr cDy 0 s s9) := by
  have hJ : Fr cDy 0 s s := fr_r
  unfold f_X11_isHouse
  refine pq_b (fy_X11_within _ _ _ _) (fun _ s2 gs2 => ?_)
  have js2 := fr_t hJ gs2 rfl
  refine pq_c (fun _ => ?_)
  exact pq_s js2
theorem fy_X11_whyNoStep (a1 : Int32) (a2 : Int32) (s : Sg) : PQ (f_X11_whyNoStep a1 a2 s) (fun _ s9 => Fr cDy 0 s s9) := by
  have hJ : Fr cDy 0 s s := fr_r
  unfold f_X11_whyNoStep
  refine pq_b (fy_X11_isHouse _ _) (fun _ s2 gs2 => ?_)
  have js2 := fr_t hJ gs2 rfl
  refine pq_if (fun _ => ?_) (fun _ => ?_)
  · exact pq_s js2
  · refine pq_if (fun _ => ?_) (fun _ => ?_)
    · exact pq_s js2
    · refine pq_b (fy_X4_isGone _ _) (fun _ s4 gs4 => ?_)
      have js4 := fr_t js2 gs4 rfl
      refine pq_if (fun _ => ?_) (fun _ => ?_)
      · exact pq_s js4
      · exact pq_s js4
theorem fy_X11_isGrocer (a1 : Int32) (s : Sg) : PQ (f_X11_isGrocer a1 s) (fun _ s9 => Fr cDy 0 s s9) := by
  have hJ : Fr cDy 0 s s := fr_r
  unfold f_X11_isGrocer
  refine pq_b (fy_X11_within _ _ _ _) (fun _ s2 gs2 => ?_)
  have js2 := fr_t hJ gs2 rfl
  refine pq_c (fun _ => ?_)
  exact pq_s js2
theorem fy_X11_strew (a1 : Int32) (a2 : Int32) (s : Sg) : PQ (f_X11_strew a1 a2 s) (fun _ s9 => Fr cDy 822752278660603021077484591278675252491367932816791031185932289 s s9) := by
  have hJ : Fr cDy 822752278660603021077484591278675252491367932816791031185932289 s s := fr_r
  unfold f_X11_strew
  refine pq_b (fy_X11_within _ _ _ _) (fun _ s2 gs2 => ?_)
  have js2 := fr_t hJ gs2 rfl
  refine pq_b (fy_X11_whyNoStep _ _ _) (fun _ s4 gs4 => ?_)
  have js4 := fr_t js2 gs4 rfl
  refine pq_if (fun _ => ?_) (fun _ => ?_)
  · refine pq_b (fy_X2_hasRoom _ _ _) (fun _ s6 gs6 => ?_)
    have js6 := fr_t js4 gs6 rfl
    refine pq_if (fun _ => ?_) (fun _ => ?_)
    · refine pq_b (fy_X11_refuse _ _) (fun _ s8 gs8 => ?_)
      have js8 := fr_t js6 gs8 rfl
      exact pq_s js8
    · refine pq_b (fy_X2_addSalt _ _ _) (fun _ s10 gs10 => ?_)
      have js10 := fr_t js6 gs10 rfl
      refine pq_c (fun _ => ?_)
      refine pq_b (fy_X11_answer _ _) (fun _ s13 gs13 => ?_)
      have js13 := fr_t js10 gs13 rfl
      exact pq_s js13
  · refine pq_b (fy_X11_refuse _ _) (fun _ s15 gs15 => ?_)
    have js15 := fr_t js4 gs15 rfl
    exact pq_s js15
theorem fy_X11_buy (a1 : Int32) (a2 : Int32) (a3 : Int32) (s : Sg) : PQ (f_X11_buy a1 a2 a3 s) (fun _ s9 => Fr cDy 1234128417990904531616226886918012878737051899225205788232384513 s s9) := by
  have hJ : Fr cDy 1234128417990904531616226886918012878737051899225205788232384513 s s := fr_r
  unfold f_X11_buy
  refine pq_b (fy_X11_isGrocer _ _) (fun _ s2 gs2 => ?_)
  have js2 := fr_t hJ gs2 rfl
  refine pq_if (fun _ => ?_) (fun _ => ?_)
  · refine pq_b (fy_X11_refuse _ _) (fun _ s4 gs4 => ?_)
    have js4 := fr_t js2 gs4 rfl
    exact pq_s js4
  · refine pq_b (fy_X11_within _ _ _ _) (fun _ s6 gs6 => ?_)
    have js6 := fr_t js2 gs6 rfl
    refine pq_if (fun _ => ?_) (fun _ => ?_)
    · refine pq_b (fy_X11_refuse _ _) (fun _ s8 gs8 => ?_)
      have js8 := fr_t js6 gs8 rfl
      exact pq_s js8
    · refine pq_b (fy_X11_isHouse _ _) (fun _ s10 gs10 => ?_)
      have js10 := fr_t js6 gs10 rfl
      refine pq_if (fun _ => ?_) (fun _ => ?_)
      · refine pq_b (fy_X11_refuse _ _) (fun _ s12 gs12 => ?_)
        have js12 := fr_t js10 gs12 rfl
        exact pq_s js12
      · refine pq_b (fy_X2_hasRoom _ _ _) (fun _ s14 gs14 => ?_)
        have js14 := fr_t js10 gs14 rfl
        refine pq_if (fun _ => ?_) (fun _ => ?_)
        · refine pq_b (fy_X11_refuse _ _) (fun _ s16 gs16 => ?_)
          have js16 := fr_t js14 gs16 rfl
          exact pq_s js16
        · refine pq_c (fun _ => ?_)
          refine pq_if (fun _ => ?_) (fun _ => ?_)
          · refine pq_b (fy_X4_isGone _ _) (fun _ s19 gs19 => ?_)
            have js19 := fr_t js14 gs19 rfl
            refine pq_if (fun _ => ?_) (fun _ => ?_)
            · refine pq_b (fy_X2_addBought_25 _ _ _ _) (fun _ s21 gs21 => ?_)
              have js21 := fr_t js19 gs21 rfl
              refine pq_b (fy_X11_answer _ _) (fun _ s23 gs23 => ?_)
              have js23 := fr_t js21 gs23 rfl
              exact pq_s js23
            · refine pq_b (fy_X11_refuse _ _) (fun _ s25 gs25 => ?_)
              have js25 := fr_t js19 gs25 rfl
              exact pq_s js25
          · refine pq_b (fy_X11_refuse _ _) (fun _ s27 gs27 => ?_)
            have js27 := fr_t js14 gs27 rfl
            exact pq_s js27
theorem fy_X11_sweep (a1 : Int32) (s : Sg) : PQ (f_X11_sweep a1 s) (fun _ s9 => Fr cDy 3291009114642412084309938365114701009965471731267163025232101377 s s9) := by
  have hJ : Fr cDy 3291009114642412084309938365114701009965471731267163025232101377 s s := fr_r
  unfold f_X11_sweep
  refine pq_b (fy_X11_whyNoStep _ _ _) (fun _ s2 gs2 => ?_)
  have js2 := fr_t hJ gs2 rfl
  refine pq_if (fun _ => ?_) (fun _ => ?_)
  · refine pq_b (fy_X2_clearStep _ _) (fun _ s4 gs4 => ?_)
    have js4 := fr_t js2 gs4 rfl
    refine pq_b (fy_X11_answer _ _) (fun _ s6 gs6 => ?_)
    have js6 := fr_t js4 gs6 rfl
    exact pq_s js6
  · refine pq_b (fy_X11_refuse _ _) (fun _ s8 gs8 => ?_)
    have js8 := fr_t js2 gs8 rfl
    exact pq_s js8
theorem fy_X11_rain  (s : Sg) : PQ (f_X11_rain  s) (fun _ s9 => Fr cDy 1851192626986356797424340330377019318105577848837780644802068481 s s9) := by
  have hJ : Fr cDy 1851192626986356797424340330377019318105577848837780644802068481 s s := fr_r
  unfold f_X11_rain
  refine pq_b (fy_X2_letRain_25  _) (fun _ s2 gs2 => ?_)
  have js2 := fr_t hJ gs2 rfl
  refine pq_b (fy_X11_answer _ _) (fun _ s4 gs4 => ?_)
  have js4 := fr_t js2 gs4 rfl
  exact pq_s js4
/-! grains' bounds on the reference's side -/
theorem i_div16 (a : Int32) (h : 0 ≤ a.toInt) : (a / 16).toInt = a.toInt / 16 := by
  have r := i_rg a
  have e : (a / 16).toInt = Int.bmod (a.toInt.tdiv (16 : Int32).toInt) 4294967296 := Int32.toInt_div _ _
  rw [e, show (16 : Int32).toInt = 16 from rfl, Int.tdiv_eq_ediv_of_nonneg h, bm32]
  omega
def GnR (M : Nat → Int32) (K : Int) : Prop := ∀ h : Nat, h < 8 → (0 ≤ (M (16 + 3 * h)).toInt ∧ 0 ≤ (M (17 + 3 * h)).toInt ∧ (M (16 + 3 * h)).toInt + (M (17 + 3 * h)).toInt ≤ K) ∧ 0 ≤ (M (18 + 3 * h)).toInt ∧ (M (18 + 3 * h)).toInt ≤ 99
theorem gn_up {M : Nat → Int32} {K K' : Int} (h : GnR M K) (hK : K ≤ K') : GnR M K' := fun x hx => by
  have := h x hx
  omega
theorem gn_c {M M' : Nat → Int32} {K : Int} (h : GnR M K) (e : ∀ p, 16 ≤ p → p < 40 → M' p = M p) : GnR M' K := fun x hx => by
  rw [e _ (by omega) (by omega), e _ (by omega) (by omega), e _ (by omega) (by omega)]
  exact h x hx
theorem gn_ly {M : Nat → Int32} {K : Int} (h : GnR M K) (hK : K ≤ 1000000000) {x : Nat} (hx : x < 8) : (lyM M x).toInt = (M (16 + 3 * x)).toInt + (M (17 + 3 * x)).toInt ∧ 0 ≤ (lyM M x).toInt ∧ (lyM M x).toInt ≤ K := by
  have w := h x hx
  have e : (lyM M x).toInt = (M (16 + 3 * x)).toInt + (M (17 + 3 * x)).toInt := i_addx _ _ (by omega)
  omega
theorem gn_room {M : Nat → Int32} {K : Int} (h : GnR M K) (hK : K ≤ 1000000000) {x : Nat} (hx : x < 8) {g : Int32} (hg : 0 ≤ g.toInt ∧ g.toInt ≤ 9999) (r : ¬ 9999 < lyM M x + g) : (M (16 + 3 * x)).toInt + (M (17 + 3 * x)).toInt + g.toInt ≤ 9999 := by
  have w := gn_ly h hK hx
  have e : (lyM M x + g).toInt = (lyM M x).toInt + g.toInt := i_addx _ _ (by omega)
  have c : (9999 : Int32).toInt = 9999 := rfl
  have := i_nlt r
  omega
/-- one house is changed -/
theorem gn_1 {M M' : Nat → Int32} {K : Int} (h : GnR M K) (x : Nat) (o : ∀ p, ¬ p = 16 + 3 * x → ¬ p = 17 + 3 * x → ¬ p = 18 + 3 * x → 16 ≤ p → p < 40 → M' p = M p) (n : (0 ≤ (M' (16 + 3 * x)).toInt ∧ 0 ≤ (M' (17 + 3 * x)).toInt ∧ (M' (16 + 3 * x)).toInt + (M' (17 + 3 * x)).toInt ≤ K) ∧ 0 ≤ (M' (18 + 3 * x)).toInt ∧ (M' (18 + 3 * x)).toInt ≤ 99) : GnR M' K := fun y hy => by
  by_cases z : y = x
  · subst z
    exact n
  · rw [o _ (by omega) (by omega) (by omega) (by omega) (by omega), o _ (by omega) (by omega) (by omega) (by omega) (by omega), o _ (by omega) (by omega) (by omega) (by omega) (by omega)]
    exact h y hy
theorem gn_strews {t : Sg} {K : Int} (G : GnR (t.1 1) K) (hK : 9999 ≤ K ∧ K ≤ 1000000000) {a : Int32} {h : Nat} (ha : a.toInt = (h : Int)) (hh : h < 8) {g : Int32} (hg : 0 ≤ g.toInt ∧ g.toInt ≤ 9999) (r : ¬ 9999 < lyM (t.1 1) h + g) : PQ (f_X12_strews a g t) (fun _ t' => GnR (t'.1 1) K) := pq_w (strews_m ha hh g t) (fun _ t' y => by
  have q := gn_room G hK.2 hh hg r
  have w := G h hh
  have e : (t.1 1 (16 + 3 * h) + g).toInt = (t.1 1 (16 + 3 * h)).toInt + g.toInt := i_addx _ _ (by omega)
  have k : ∀ p, 16 ≤ p → t'.1 1 p = if p = 16 + 3 * h then t.1 1 (16 + 3 * h) + g else t.1 1 p := fun p hp => by
    rw [y, pI_1, if_neg (fun z => by have := z.2; omega), pI_1]
    by_cases z : p = 16 + 3 * h
    · rw [if_pos ⟨rfl, z⟩, if_pos z]
    · rw [if_neg (fun u => z u.2), if_neg z]
  refine gn_1 G h (fun p h1 h2 h3 h4 _ => by rw [k p h4, if_neg h1]) ?_
  rw [k _ (by omega), if_pos rfl, k (17 + 3 * h) (by omega), if_neg (by omega), k (18 + 3 * h) (by omega), if_neg (by omega), e]
  omega)
theorem gn_sweeps {t : Sg} {K : Int} (G : GnR (t.1 1) K) (hK : 9999 ≤ K ∧ K ≤ 1000000000) {a : Int32} {h : Nat} (ha : a.toInt = (h : Int)) (hh : h < 8) : PQ (f_X12_sweeps a t) (fun r t' => GnR (t'.1 1) K ∧ 0 ≤ r.toInt ∧ r.toInt ≤ K) := by
  have y := hr_x ha hh
  have w := G h hh
  unfold f_X12_sweeps
  refine pq_b (grains_m ha hh t) (fun r1 s2 z => ?_)
  obtain ⟨es, e1⟩ := z
  rw [es]
  refine pq_b (hr_p a t) (fun r3 s4 z => ?_)
  obtain ⟨es, er⟩ := z
  rw [es, er]
  refine pq_c (fun _ => pq_b (hr_p a _) (fun r6 s7 z => ?_))
  obtain ⟨es, er⟩ := z
  rw [es, er, y.1]
  refine pq_c (fun _ => pq_n (fun s9 e9 => pq_s ?_))
  rw [y.2.1] at e9
  have k : ∀ p, 16 ≤ p → (pI s9 1 7 ((s9.1 1 7) + r1)).1 1 p = if p = 17 + 3 * h then 0 else if p = 16 + 3 * h then 0 else t.1 1 p := fun p hp => by
    rw [pI_1, if_neg (fun z => by have := z.2; omega), e9, pI_1]
    by_cases z : p = 17 + 3 * h
    · rw [if_pos ⟨rfl, z⟩, if_pos z]
    · rw [if_neg (fun u => z u.2), if_neg z, pI_1]
      by_cases z2 : p = 16 + 3 * h
      · rw [if_pos ⟨rfl, z2⟩, if_pos z2]
      · rw [if_neg (fun u => z2 u.2), if_neg z2]
  have e0 : (0 : Int32).toInt = 0 := rfl
  refine ⟨gn_1 G h (fun p h1 h2 h3 h4 _ => by rw [k p h4, if_neg h2, if_neg h1]) ?_, ?_⟩
  · rw [k (16 + 3 * h) (by omega), if_neg (by omega), if_pos rfl, k (17 + 3 * h) (by omega), if_pos rfl, k (18 + 3 * h) (by omega), if_neg (by omega), if_neg (by omega)]
    omega
  · rw [e1]
    exact (gn_ly G hK.2 hh).2
theorem gn_buys {t : Sg} {K : Int} (G : GnR (t.1 1) K) (hK : 9999 ≤ K ∧ K ≤ 1000000000) {a c n : Int32} {g h : Nat} (ha : a.toInt = (g : Int)) (hg : g < 4) (hc : c.toInt = (h : Int)) (hh : h < 8) (hn : 0 ≤ n.toInt ∧ n.toInt ≤ 999) (hs : 0 ≤ (t.1 1 (94 + 3 * g)).toInt ∧ (t.1 1 (94 + 3 * g)).toInt ≤ 16) (r : ¬ 9999 < lyM (t.1 1) h + n) : PQ (f_X12_buys a n c t) (fun _ t' => GnR (t'.1 1) K) := by
  have x := gx_x ha hg
  have y := hr_x hc hh
  have q := gn_room G hK.2 hh ⟨hn.1, by omega⟩ r
  have w := G h hh
  unfold f_X12_buys
  refine pq_c (fun _ => pq_n (fun x2 e2 => pq_c (fun _ => pq_n (fun s4 e4 => pq_c (fun _ => pq_n (fun s6 e6 => ?_))))))
  rw [x.2.2] at e2
  rw [x.1] at e4
  have hm : (0 : Int) * 0 ≤ n.toInt * (t.1 1 (94 + 3 * g)).toInt := Int.mul_le_mul hn.1 hs.1 (Int.le_refl 0) hn.1
  have hm0 : 0 ≤ n.toInt * (t.1 1 (94 + 3 * g)).toInt := by omega
  have hm1 : n.toInt * (t.1 1 (94 + 3 * g)).toInt ≤ n.toInt * 16 := Int.mul_le_mul (Int.le_refl _) hs.2 hs.1 hn.1
  have em : (n * (t.1 1 (94 + 3 * g))).toInt = n.toInt * (t.1 1 (94 + 3 * g)).toInt := i_mulx _ _ (by omega)
  have ex : x2.toInt = n.toInt * (t.1 1 (94 + 3 * g)).toInt / 16 := by rw [e2, i_div16 _ (by rw [em]; exact hm0), em]
  have hx2 : 0 ≤ x2.toInt ∧ x2.toInt ≤ n.toInt := by omega
  have en : (n - x2).toInt = n.toInt - x2.toInt := i_subx _ _ (by omega)
  have k6 : ∀ p, 16 ≤ p → p < 40 → s6.1 1 p = t.1 1 p := fun p h1 h2 => by
    rw [e6, pI_1, if_neg (fun z => by have := z.2; omega), e4, pI_1, if_neg (fun z => by have := z.2; omega)]
  refine pq_b (strews_m hc hh _ s6) (fun _ s8 e8 => pq_b (hr_p c s8) (fun r9 s10 z => ?_))
  obtain ⟨es, er⟩ := z
  rw [es, er]
  refine pq_c (fun _ => pq_n (fun s12 e12 => pq_s ?_))
  rw [y.2.1] at e12
  have k8 : ∀ p, 16 ≤ p → p < 40 → s8.1 1 p = if p = 16 + 3 * h then t.1 1 (16 + 3 * h) + (n - x2) else t.1 1 p := fun p h1 h2 => by
    rw [e8, pI_1, if_neg (fun z => by have := z.2; omega), pI_1]
    by_cases z : p = 16 + 3 * h
    · rw [if_pos ⟨rfl, z⟩, if_pos z, k6 _ (by omega) (by omega)]
    · rw [if_neg (fun u => z u.2), if_neg z, k6 p h1 h2]
  have k : ∀ p, 16 ≤ p → p < 40 → (pI s12 1 5 ((s12.1 1 5) + x2)).1 1 p = if p = 17 + 3 * h then t.1 1 (17 + 3 * h) + x2 else if p = 16 + 3 * h then t.1 1 (16 + 3 * h) + (n - x2) else t.1 1 p := fun p h1 h2 => by
    rw [pI_1, if_neg (fun z => by have := z.2; omega), e12, pI_1]
    by_cases z : p = 17 + 3 * h
    · rw [if_pos ⟨rfl, z⟩, if_pos z, k8 _ (by omega) (by omega), if_neg (by omega)]
    · rw [if_neg (fun u => z u.2), if_neg z, k8 p h1 h2]
  have a1 : (t.1 1 (17 + 3 * h) + x2).toInt = (t.1 1 (17 + 3 * h)).toInt + x2.toInt := i_addx _ _ (by omega)
  have a2 : (t.1 1 (16 + 3 * h) + (n - x2)).toInt = (t.1 1 (16 + 3 * h)).toInt + (n.toInt - x2.toInt) := by rw [i_addx _ _ (by omega), en]
  refine gn_1 G h (fun p h1 h2 h3 h4 h5 => by rw [k p h4 h5, if_neg h2, if_neg h1]) ?_
  rw [k (16 + 3 * h) (by omega) (by omega), if_neg (by omega), if_pos rfl, k (17 + 3 * h) (by omega) (by omega), if_pos rfl, k (18 + 3 * h) (by omega) (by omega), if_neg (by omega), if_neg (by omega), a1, a2]
  omega
theorem gn_rains {K : Int} (hK : 9999 ≤ K ∧ K ≤ 1000000000) (m : Nat) : ∀ (i : Nat) (v1 v2 : Int32) (t : Sg), v2.toInt = (i : Int) → i ≤ 8 → GnR (t.1 1) K → (0 ≤ (t.1 1 0).toInt ∧ (t.1 1 0).toInt ≤ 8) → 0 ≤ (t.1 1 13).toInt → PQ (f_X12_rains_b4 m v1 v2 t) (fun _ t' => GnR (t'.1 1) K) := by
  induction m with
  | zero => intro i v1 v2 t _ _ _ _ _ r t' z; cases z
  | succ m ih =>
    intro i v1 v2 t hv hi G b0 b13
    have e1 : (1 : Int32).toInt = 1 := rfl
    unfold f_X12_rains_b4
    refine pq_if (fun _ => pq_n (fun s1 f1 => pq_s ?_)) (fun c => ?_)
    · rw [f1]
      exact gn_c G (fun p h1 h2 => by rw [pI_1, if_neg (fun z => by have := z.2; omega), pI_1, if_neg (fun z => by have := z.2; omega)])
    · have c := i_nle c
      have hh : i < 8 := by omega
      have y := hr_x hv hh
      have w := G i hh
      refine pq_b (hr_p v2 t) (fun r2 s3 z => ?_)
      obtain ⟨es, er⟩ := z
      rw [es, er]
      refine pq_c (fun _ => pq_n (fun x5 f5 => pq_c (fun _ => pq_n (fun x7 _ => pq_n (fun s8 e8 => pq_n (fun s9 e9 => ?_))))))
      rw [y.1] at f5 e8
      rw [y.2.1] at e9
      have h5 : 0 ≤ x5.toInt ∧ x5.toInt ≤ (t.1 1 (16 + 3 * i)).toInt := by
        rw [f5]
        by_cases z : t.1 1 13 < t.1 1 (16 + 3 * i)
        · rw [if_pos z]
          have := i_lt z
          omega
        · rw [if_neg z]
          omega
      have es5 : (t.1 1 (16 + 3 * i) - x5).toInt = (t.1 1 (16 + 3 * i)).toInt - x5.toInt := i_subx _ _ (by omega)
      have e0 : (0 : Int32).toInt = 0 := rfl
      have k : ∀ p, s9.1 1 p = if p = 17 + 3 * i then 0 else if p = 16 + 3 * i then t.1 1 (16 + 3 * i) - x5 else t.1 1 p := fun p => by
        rw [e9, pI_1]
        by_cases z : p = 17 + 3 * i
        · rw [if_pos ⟨rfl, z⟩, if_pos z]
        · rw [if_neg (fun u => z u.2), if_neg z, e8, pI_1]
          by_cases z2 : p = 16 + 3 * i
          · rw [if_pos ⟨rfl, z2⟩, if_pos z2]
          · rw [if_neg (fun u => z2 u.2), if_neg z2]
      refine ih (i + 1) x7 (v2 + 1) s9 (by rw [i_addx _ _ (by omega)]; omega) (by omega) ?_ ?_ ?_
      · refine gn_1 G i (fun p h1 h2 h3 h4 h5 => by rw [k p, if_neg h2, if_neg h1]) ?_
        rw [k (16 + 3 * i), if_neg (by omega), if_pos rfl, k (17 + 3 * i), if_pos rfl, k (18 + 3 * i), if_neg (by omega), if_neg (by omega), es5]
        omega
      · rw [k 0, if_neg (by omega), if_neg (by omega)]
        exact b0
      · rw [k 13, if_neg (by omega), if_neg (by omega)]
        exact b13
theorem gn_snows {K : Int} (v1 : Int32) (h1 : 0 ≤ v1.toInt ∧ v1.toInt ≤ 9999) (m : Nat) : ∀ (i : Nat) (v2 : Int32) (t : Sg), v2.toInt = (i : Int) → i ≤ 8 → GnR (t.1 1) K → (0 ≤ (t.1 1 0).toInt ∧ (t.1 1 0).toInt ≤ 8) → PQ (f_X12_snows_b2 m v1 v2 t) (fun _ t' => GnR (t'.1 1) K) := by
  induction m with
  | zero => intro i v2 t _ _ _ _ r t' z; cases z
  | succ m ih =>
    intro i v2 t hv hi G b0
    have e1 : (1 : Int32).toInt = 1 := rfl
    have c99 : (99 : Int32).toInt = 99 := rfl
    unfold f_X12_snows_b2
    refine pq_if (fun _ => pq_s G) (fun c => ?_)
    have c := i_nle c
    have hh : i < 8 := by omega
    have y := hr_x hv hh
    have w := G i hh
    have a1 : (v2 + 1).toInt = ((i + 1 : Nat) : Int) := by rw [i_addx _ _ (by omega)]; omega
    refine pq_b (gone_m hv (by omega) t) (fun r1 s2 z => ?_)
    obtain ⟨es, -⟩ := z
    rw [es]
    refine pq_if (fun _ => ?_) (fun _ => ih (i + 1) (v2 + 1) t a1 (by omega) G b0)
    refine pq_b (hr_p v2 t) (fun r3 s4 z => ?_)
    obtain ⟨es, er⟩ := z
    rw [es, er]
    refine pq_b (hr_p v2 t) (fun r5 s6 z => ?_)
    obtain ⟨es, er⟩ := z
    rw [es, er]
    refine pq_c (fun _ => pq_c (fun _ => pq_n (fun s9 e9 => ?_)))
    rw [y.2.2] at e9
    have ea : (t.1 1 (18 + 3 * i) + v1).toInt = (t.1 1 (18 + 3 * i)).toInt + v1.toInt := i_addx _ _ (by omega)
    have k : ∀ p, ¬ p = 18 + 3 * i → s9.1 1 p = t.1 1 p := fun p hp => by rw [e9, pI_1, if_neg (fun u => hp u.2)]
    refine ih (i + 1) (v2 + 1) s9 a1 (by omega) (gn_1 G i (fun p z1 z2 z3 z4 z5 => k p z3) ?_) (by rw [k 0 (by omega)]; exact b0)
    rw [k (16 + 3 * i) (by omega), k (17 + 3 * i) (by omega), e9, q_eq]
    refine ⟨w.1, ?_⟩
    by_cases z : t.1 1 (18 + 3 * i) + v1 < 99
    · rw [if_pos z]
      have := i_lt z
      omega
    · rw [if_neg z]
      omega
theorem gn_min {a n : Int32} {x : Int32} (h : x = if a < n then a else n) : x.toInt ≤ a.toInt ∧ x.toInt ≤ n.toInt ∧ (0 ≤ a.toInt → 0 ≤ n.toInt → 0 ≤ x.toInt) := by
  rw [h]
  by_cases z : a < n
  · rw [if_pos z]
    have := i_lt z
    omega
  · rw [if_neg z]
    have := i_nlt z
    omega
/-- grains are carried: the other house has n more at the most -/
theorem gn_brings {t : Sg} {K : Int} (G : GnR (t.1 1) K) (hK : 9999 ≤ K ∧ K ≤ 1000000000) {a b n : Int32} {h j : Nat} (ha : a.toInt = (h : Int)) (hh : h < 8) (hb : b.toInt = (j : Int)) (hj : j < 8) (hn : 0 ≤ n.toInt ∧ n.toInt ≤ 9999) : PQ (f_X12_brings a b n t) (fun _ t' => ∀ x, x < 8 → (0 ≤ (t'.1 1 (16 + 3 * x)).toInt ∧ 0 ≤ (t'.1 1 (17 + 3 * x)).toInt ∧ (t'.1 1 (16 + 3 * x)).toInt + (t'.1 1 (17 + 3 * x)).toInt ≤ (t.1 1 (16 + 3 * x)).toInt + (t.1 1 (17 + 3 * x)).toInt + (if x = j then n.toInt else 0)) ∧ (∀ p, ¬ (16 ≤ p ∧ p < 40) → t'.1 1 p = t.1 1 p) ∧ t'.1 1 (18 + 3 * x) = t.1 1 (18 + 3 * x)) := by
  have y := hr_x ha hh
  have z := hr_x hb hj
  have wa := G h hh
  have wb := G j hj
  unfold f_X12_brings
  refine pq_b (hr_p a t) (fun r3 s4 w => ?_)
  obtain ⟨es, er⟩ := w
  rw [es, er]
  refine pq_c (fun _ => pq_n (fun x4 f4 => pq_b (hr_p a t) (fun r5 s6 w => ?_)))
  obtain ⟨es, er⟩ := w
  rw [es, er]
  refine pq_c (fun _ => pq_n (fun x8 f8 => pq_b (hr_p a t) (fun r9 s10 w => ?_)))
  obtain ⟨es, er⟩ := w
  rw [es, er]
  rw [y.1] at f4
  rw [y.2.1] at f8
  have m4 := gn_min f4
  have m8 := gn_min f8
  have en : (n - x4).toInt = n.toInt - x4.toInt := i_subx _ _ (by omega)
  refine pq_c (fun _ => pq_n (fun s12 e12 => ?_))
  rw [y.1] at e12
  refine pq_b (hr_p a s12) (fun r13 s14 w => ?_)
  obtain ⟨es, er⟩ := w
  rw [es, er]
  refine pq_c (fun _ => pq_n (fun s16 e16 => ?_))
  rw [y.2.1] at e16
  refine pq_b (hr_p b s16) (fun r17 s18 w => ?_)
  obtain ⟨es, er⟩ := w
  rw [es, er]
  refine pq_c (fun _ => pq_n (fun s20 e20 => ?_))
  rw [z.1] at e20
  refine pq_b (hr_p b s20) (fun r21 s22 w => ?_)
  obtain ⟨es, er⟩ := w
  rw [es, er]
  refine pq_c (fun _ => pq_n (fun s24 e24 => pq_s ?_))
  rw [z.2.1] at e24
  have b1 : (t.1 1 (16 + 3 * h) - x4).toInt = (t.1 1 (16 + 3 * h)).toInt - x4.toInt := i_subx _ _ (by omega)
  have b2 : (t.1 1 (17 + 3 * h) - x8).toInt = (t.1 1 (17 + 3 * h)).toInt - x8.toInt := i_subx _ _ (by omega)
  have k12 : ∀ p, s12.1 1 p = if p = 16 + 3 * h then t.1 1 (16 + 3 * h) - x4 else t.1 1 p := fun p => by
    rw [e12, pI_1]
    by_cases u : p = 16 + 3 * h
    · rw [if_pos ⟨rfl, u⟩, if_pos u]
    · rw [if_neg (fun v => u v.2), if_neg u]
  have k16 : ∀ p, s16.1 1 p = if p = 17 + 3 * h then t.1 1 (17 + 3 * h) - x8 else if p = 16 + 3 * h then t.1 1 (16 + 3 * h) - x4 else t.1 1 p := fun p => by
    rw [e16, pI_1]
    by_cases u : p = 17 + 3 * h
    · rw [if_pos ⟨rfl, u⟩, if_pos u, k12, if_neg (by omega)]
    · rw [if_neg (fun v => u v.2), if_neg u, k12]
  have k20 : ∀ p, s20.1 1 p = if p = 16 + 3 * j then s16.1 1 (16 + 3 * j) + x4 else s16.1 1 p := fun p => by
    rw [e20, pI_1]
    by_cases u : p = 16 + 3 * j
    · rw [if_pos ⟨rfl, u⟩, if_pos u]
    · rw [if_neg (fun v => u v.2), if_neg u]
  have k24 : ∀ p, s24.1 1 p = if p = 17 + 3 * j then s16.1 1 (17 + 3 * j) + x8 else if p = 16 + 3 * j then s16.1 1 (16 + 3 * j) + x4 else s16.1 1 p := fun p => by
    rw [e24, pI_1]
    by_cases u : p = 17 + 3 * j
    · rw [if_pos ⟨rfl, u⟩, if_pos u, k20, if_neg (by omega)]
    · rw [if_neg (fun v => u v.2), if_neg u, k20]
  intro x hx
  have wx := G x hx
  refine ⟨?_, fun p hp => ?_, ?_⟩
  · rw [k24 (16 + 3 * x), if_neg (by omega), k24 (17 + 3 * x)]
    by_cases u : x = j
    · subst u
      rw [if_pos rfl, if_pos rfl, if_pos rfl, k16 (16 + 3 * x), if_neg (by omega), k16 (17 + 3 * x)]
      by_cases v : x = h
      · subst v
        rw [if_pos rfl, if_pos rfl, i_addx _ _ (by omega), i_addx _ _ (by omega)]
        omega
      · rw [if_neg (by omega), if_neg (by omega), if_neg (by omega), i_addx _ _ (by omega), i_addx _ _ (by omega)]
        omega
    · rw [if_neg (by omega), if_neg (by omega), if_neg (by omega), if_neg u, k16 (16 + 3 * x), if_neg (by omega), k16 (17 + 3 * x)]
      by_cases v : x = h
      · subst v
        rw [if_pos rfl, if_pos rfl]
        omega
      · rw [if_neg (by omega), if_neg (by omega), if_neg (by omega)]
        omega
  · rw [k24, if_neg (by omega), if_neg (by omega), k16, if_neg (by omega), if_neg (by omega)]
  · rw [k24, if_neg (by omega), if_neg (by omega), k16, if_neg (by omega), if_neg (by omega)]
theorem gn_of_b {M M' : Nat → Int32} {K : Int} {j : Nat} {n : Int} (G : GnR M K) (hn : 0 ≤ n) (h : ∀ x, x < 8 → (0 ≤ (M' (16 + 3 * x)).toInt ∧ 0 ≤ (M' (17 + 3 * x)).toInt ∧ (M' (16 + 3 * x)).toInt + (M' (17 + 3 * x)).toInt ≤ (M (16 + 3 * x)).toInt + (M (17 + 3 * x)).toInt + (if x = j then n else 0)) ∧ (∀ p, ¬ (16 ≤ p ∧ p < 40) → M' p = M p) ∧ M' (18 + 3 * x) = M (18 + 3 * x)) : GnR M' (K + n) := fun x hx => by
  obtain ⟨⟨a, b, c⟩, -, d⟩ := h x hx
  have g := G x hx
  rw [d]
  by_cases z : x = j
  · rw [if_pos z] at c
    omega
  · rw [if_neg z] at c
    omega
theorem gn_157 {t : Sg} {K : Int} (B : BdK t) (G : GnR (t.1 1) K) : PQ (f_X12_nightGoes_b157 BIG 0 (pI (pI t 0 25 0) 0 26 0)) (fun _ t' => GnR (t'.1 1) K) := by
  refine pq_w (ng_157 (M := t.1 1) (t0 := pI (pI t 0 25 0) 0 26 0) (by rw [pI_o _ _ _ _ _ (by decide), pI_o _ _ _ _ _ (by decide)]) B.2.2.2.2.1 (by rw [q_ne rfl, q_ne rfl]; exact B.2.2.2.2.2) B.2.1 BIG 0 0 _ rfl B.2.1.1 ⟨fun q hq => absurd hq (Nat.not_lt_zero _), fun p _ => by rw [q_nc rfl, q_nc rfl], ⟨fun _ _ _ => rfl, fun _ _ _ => rfl, rfl⟩, by rw [q_ne rfl, q_eq]; rfl, by rw [q_eq]; rfl⟩) (fun _ t' w => ?_)
  obtain ⟨t2, ⟨-, w2, -⟩, y⟩ := w
  refine gn_c G (fun p h1 h2 => ?_)
  rw [y, pI_1, if_neg (fun z => by have := z.2; omega), pI_1, if_neg (fun z => by have := z.2; omega)]
  exact w2 p (fun q _ => by omega)
theorem gn_73 {t0 : Sg} {K : Int} (hK : 9999 ≤ K ∧ K ≤ 1000000000) (B : BdK t0) (m : Nat) : ∀ (i : Nat) (v : Int32) (t : Sg), v.toInt = (i : Int) → i ≤ 8 → KL false t0 t → GnR (t.1 1) K → PQ (f_X12_nightGoes_b73 m v t) (fun _ t' => GnR (t'.1 1) K) := by
  induction m with
  | zero => intro i v t _ _ _ _ r t' z; cases z
  | succ m ih =>
    intro i v t hv hi Q G
    have e1 : (1 : Int32).toInt = 1 := rfl
    have b0 := (bdk_k B Q).1.2
    unfold f_X12_nightGoes_b73
    refine pq_if (fun _ => gn_157 (bdk_k B Q) G) (fun c => ?_)
    have c := i_nle c
    have hh : i < 8 := by omega
    have y := hr_x hv hh
    have w := G i hh
    refine pq_b (hr_p v t) (fun r2 s3 z => ?_)
    obtain ⟨es, er⟩ := z
    rw [es, er]
    refine pq_c (fun _ => pq_c (fun _ => pq_n (fun x19 f19 => pq_n (fun s20 e20 => pq_n (fun s21 e21 => ?_)))))
    rw [y.1] at f19 e20
    rw [y.2.2] at f19 e21
    have mn := gn_min f19
    have k20 : ∀ p, s20.1 1 p = if p = 16 + 3 * i then t.1 1 (16 + 3 * i) - x19 else t.1 1 p := fun p => by
      rw [e20, pI_1]
      by_cases u : p = 16 + 3 * i
      · rw [if_pos ⟨rfl, u⟩, if_pos u]
      · rw [if_neg (fun v => u v.2), if_neg u]
    have k21 : ∀ p, s21.1 1 p = if p = 18 + 3 * i then t.1 1 (18 + 3 * i) - x19 else if p = 16 + 3 * i then t.1 1 (16 + 3 * i) - x19 else t.1 1 p := fun p => by
      rw [e21, pI_1]
      by_cases u : p = 18 + 3 * i
      · rw [if_pos ⟨rfl, u⟩, if_pos u, k20, if_neg (by omega)]
      · rw [if_neg (fun v => u v.2), if_neg u, k20]
    have b1 : (t.1 1 (16 + 3 * i) - x19).toInt = (t.1 1 (16 + 3 * i)).toInt - x19.toInt := i_subx _ _ (by omega)
    have b2 : (t.1 1 (18 + 3 * i) - x19).toInt = (t.1 1 (18 + 3 * i)).toInt - x19.toInt := i_subx _ _ (by omega)
    have kq : KL false t0 (pI s21 1 8 ((s21.1 1 8) + x19)) := by
      refine kl_i ?_ (gpl_f (Or.inl (by decide)))
      rw [e21, e20]
      exact kl_i (kl_i Q (gpl_h hh (Or.inl rfl))) (gpl_h hh (Or.inr (Or.inr rfl)))
    refine ih (i + 1) (v + 1) _ (by rw [i_addx _ _ (by omega)]; omega) (by omega) kq (gn_1 G i (fun p h1 h2 h3 h4 h5 => ?_) ?_)
    · rw [pI_1, if_neg (fun z => by have := z.2; omega), k21, if_neg h3, if_neg h1]
    · rw [pI_1, if_neg (fun z => by have := z.2; omega), pI_1, if_neg (fun z => by have := z.2; omega), pI_1, if_neg (fun z => by have := z.2; omega), k21 (16 + 3 * i), if_neg (by omega), if_pos rfl, k21 (17 + 3 * i), if_neg (by omega), if_neg (by omega), k21 (18 + 3 * i), if_pos rfl, b1, b2]
      omega
theorem gn_b2 {t0 : Sg} {K : Int} (hK : 9999 ≤ K ∧ K ≤ 900000000) (B : BdK t0) (hc : ∀ c : Nat, (c : Int) < (t0.1 1 2).toInt → 1 ≤ (t0.1 1 (82 + 3 * c)).toInt ∧ (t0.1 1 (82 + 3 * c)).toInt ≤ 99) (m : Nat) : ∀ (i : Nat) (v : Int32) (t : Sg), v.toInt = (i : Int) → i ≤ 4 → KL false t0 t → GnR (t.1 1) (K + 99 * i) → PQ (f_X12_nightGoes_b2 m v t) (fun _ t' => GnR (t'.1 1) (K + 400)) := by
  induction m with
  | zero => intro i v t _ _ _ _ r t' z; cases z
  | succ m ih =>
    intro i v t hv hi Q G
    have e1 : (1 : Int32).toInt = 1 := rfl
    have b := bdk_k B Q
    have b2 := b.2.2.1.2
    have a1 : (v + 1).toInt = ((i + 1 : Nat) : Int) := by rw [i_addx _ _ (by omega)]; omega
    have gu : GnR (t.1 1) (K + 99 * ((i + 1 : Nat) : Int)) := gn_up G (by omega)
    unfold f_X12_nightGoes_b2
    refine pq_if (fun _ => gn_73 (K := K + 400) (by omega) B BIG 0 0 t rfl (by decide) Q (gn_up G (by omega))) (fun c => ?_)
    have c := i_nle c
    have hi4 : i < 4 := by omega
    have x := cx_x hv hi4
    have hb := b.2.2.2.1 i (by omega)
    refine pq_c (fun _ => pq_b (hr_p _ t) (fun r2 s3 w => ?_))
    obtain ⟨es, er⟩ := w
    rw [es]
    refine pq_c (fun _ => pq_if (fun _ => pq_c (fun _ => pq_c (fun _ => ?_))) (fun _ => ih (i + 1) (v + 1) t a1 (by omega) Q gu))
    have e82 : t.1 1 (82 + 3 * i) = t0.1 1 (82 + 3 * i) := Q.2.1 _ (plq (plp_c hi4).2.2)
    have e2 : t.1 1 2 = t0.1 1 2 := Q.2.1 _ (plq (plp_0 (by omega)))
    have n82 := hc i (by rw [← e2]; omega)
    rw [← e82] at n82
    refine pq_b (pq_and (gn_brings G (by omega) (h := (t.1 1 (80 + 3 * i)).toInt.toNat) (j := (t.1 1 (81 + 3 * i)).toInt.toNat) (by rw [x.1]; omega) (by omega) (by rw [x.2.1]; omega) (by omega) ⟨by rw [x.2.2]; omega, by rw [x.2.2]; omega⟩) (kl_brings Q (h := (t.1 1 (80 + 3 * i)).toInt.toNat) (j := (t.1 1 (81 + 3 * i)).toInt.toNat) (by rw [x.1]; omega) (by omega) (by rw [x.2.1]; omega) (by omega) _)) (fun _ s29 k => ih (i + 1) (v + 1) s29 a1 (by omega) k.2 (gn_up (gn_of_b G (by rw [x.2.2]; omega) k.1) (by rw [x.2.2]; omega)))
theorem gn_night {t : Sg} {K : Int} (hK : 9999 ≤ K ∧ K ≤ 900000000) (B : BdK t) (hc : ∀ c : Nat, (c : Int) < (t.1 1 2).toInt → 1 ≤ (t.1 1 (82 + 3 * c)).toInt ∧ (t.1 1 (82 + 3 * c)).toInt ≤ 99) (G : GnR (t.1 1) K) : PQ (f_X12_nightGoes t) (fun _ t' => GnR (t'.1 1) (K + 400)) := gn_b2 hK B hc BIG 0 0 t rfl (by decide) kl_r (gn_up G (by omega))
/-! life: one row's act on both sides -/
def bcV (a : Int32) : Int32 :=
  let x1 := a - (((a.toUInt32 >>> ((1 : Int32).toUInt32 &&& Int32.toUInt32 31)).toInt32) &&& 1431655765)
  let x2 := (x1 &&& 858993459) + (((x1.toUInt32 >>> ((2 : Int32).toUInt32 &&& Int32.toUInt32 31)).toInt32) &&& 858993459)
  let x3 := (x2 + ((x2.toUInt32 >>> ((4 : Int32).toUInt32 &&& Int32.toUInt32 31)).toInt32)) &&& 252645135
  let x4 := x3 + ((x3.toUInt32 >>> ((8 : Int32).toUInt32 &&& Int32.toUInt32 31)).toInt32)
  let x5 := x4 + ((x4.toUInt32 >>> ((16 : Int32).toUInt32 &&& Int32.toUInt32 31)).toInt32)
  x5 &&& 63
theorem bc_p (a : Int32) (s : Sg) : PQ (f_bitCount a s) (fun r s' => s' = s ∧ r = bcV a) := by
  unfold f_bitCount
  refine pq_n (fun x1 e1 => pq_n (fun x2 e2 => pq_n (fun x3 e3 => pq_n (fun x4 e4 => pq_n (fun x5 e5 => pq_s ⟨rfl, ?_⟩)))))
  subst e1; subst e2; subst e3; subst e4; subst e5
  rfl
theorem bc_n : ∀ n, n < 256 → bcV (Int32.ofNat n) = cntI (fun q => bt (Int32.ofNat n) q) 8 := by decide +kernel
theorem b255 : ∀ i, i < 32 → bt 255 i = decide (i < 8) := by decide
theorem bc_v {a : Int32} (h : ∀ i, i < 32 → 8 ≤ i → bt a i = false) : bcV a = cntI (fun q => bt a q) 8 := by
  have e : a &&& 255 = a := bt_ext (fun i hi => by
    rw [bt_and, b255 i hi]
    by_cases z : i < 8
    · rw [decide_eq_true z, Bool.and_true]
    · rw [h i hi (by omega), Bool.false_and])
  have r := i_and a 255 (by decide)
  rw [e] at r
  have c : (255 : Int32).toInt = 255 := rfl
  have ea : a = Int32.ofNat a.toInt.toNat := Int32.toInt_inj.mp (by rw [Int32.toInt_ofNat_of_lt (by omega)]; omega)
  have w := bc_n a.toInt.toNat (by omega)
  rw [← ea] at w
  exact w
theorem cnt_x {f : Nat → Bool} {Q : Nat} : ∀ n, Q ≤ n → (∀ q, Q ≤ q → q < n → f q = false) → cntI f n = cntI f Q := by
  intro n
  induction n with
  | zero =>
    intro h _
    have : Q = 0 := by omega
    rw [this]
  | succ n ih =>
    intro h hf
    by_cases z : Q = n + 1
    · rw [z]
    · rw [cnt_s, hf n (by omega) (by omega), if_neg (by decide), add0, ih (by omega) (fun q h1 h2 => hf q h1 (by omega))]
theorem bt_not (a : Int32) {i : Nat} (hi : i < 32) : bt (a ^^^ (-1)) i = !bt a i := by
  rw [bt_xor, bt_m1 i hi]
  cases bt a i <;> rfl
def TlR (ms : Int32) (s t : Sg) : Prop := s.1 4 2 = t.1 0 29 ∧ s.1 4 3 = t.1 0 30 ∧ s.1 4 4 = t.1 11 0 + ms ∧ s.1 4 5 = t.1 11 1 ∧ s.1 4 6 = t.1 11 2 ∧ s.1 4 7 = t.1 11 3
def DyE (s t : Sg) : Prop := s.1 26 6 = t.1 1 4 ∧ 0 ≤ (t.1 1 4).toInt ∧ (t.1 1 4).toInt ≤ 999
theorem tl_k {m : Int32} {s t s' t' : Sg} (T : TlR m s t) (h4 : ∀ k, 2 ≤ k → k ≤ 7 → s'.1 4 k = s.1 4 k) (h11 : t'.1 11 = t.1 11) (h29 : t'.1 0 29 = t.1 0 29) (h30 : t'.1 0 30 = t.1 0 30) : TlR m s' t' := by
  unfold TlR
  rw [h4 2 (by decide) (by decide), h4 3 (by decide) (by decide), h4 4 (by decide) (by decide), h4 5 (by decide) (by decide), h4 6 (by decide) (by decide), h4 7 (by decide) (by decide), h11, h29, h30]
  exact T
theorem tl_m {s t : Sg} (T : TlR 0 s t) : TlR 1 (pI s 4 4 ((s.1 4 4) + 1)) t := by
  obtain ⟨T1, T2, T3, T4, T5, T6⟩ := T
  have o : ∀ k, ¬ k = 4 → (pI s 4 4 ((s.1 4 4) + 1)).1 4 k = s.1 4 k := fun k hk => by rw [pI_1, if_neg (fun z => hk z.2)]
  unfold TlR
  rw [o 2 (by decide), o 3 (by decide), o 5 (by decide), o 6 (by decide), o 7 (by decide), q_eq, T3, add0]
  exact ⟨T1, T2, rfl, T4, T5, T6⟩
def TlRz (ms : Int32) (s t : Sg) : Prop := s.1 5 2 = t.1 0 29 ∧ s.1 5 3 = t.1 0 30 ∧ s.1 5 4 = t.1 11 0 + ms ∧ s.1 5 5 = t.1 11 1 ∧ s.1 5 6 = t.1 11 2 ∧ s.1 5 7 = t.1 11 3
def DyEz (s t : Sg) : Prop := s.1 53 6 = t.1 1 4 ∧ 0 ≤ (t.1 1 4).toInt ∧ (t.1 1 4).toInt ≤ 999
theorem tl_kz {m : Int32} {s t s' t' : Sg} (T : TlRz m s t) (h4 : ∀ k, 2 ≤ k → k ≤ 7 → s'.1 5 k = s.1 5 k) (h11 : t'.1 11 = t.1 11) (h29 : t'.1 0 29 = t.1 0 29) (h30 : t'.1 0 30 = t.1 0 30) : TlRz m s' t' := by
  unfold TlRz
  rw [h4 2 (by decide) (by decide), h4 3 (by decide) (by decide), h4 4 (by decide) (by decide), h4 5 (by decide) (by decide), h4 6 (by decide) (by decide), h4 7 (by decide) (by decide), h11, h29, h30]
  exact T
theorem tl_mz {s t : Sg} (T : TlRz 0 s t) : TlRz 1 (pI s 5 4 ((s.1 5 4) + 1)) t := by
  obtain ⟨T1, T2, T3, T4, T5, T6⟩ := T
  have o : ∀ k, ¬ k = 4 → (pI s 5 4 ((s.1 5 4) + 1)).1 5 k = s.1 5 k := fun k hk => by rw [pI_1, if_neg (fun z => hk z.2)]
  unfold TlRz
  rw [o 2 (by decide), o 3 (by decide), o 5 (by decide), o 6 (by decide), o 7 (by decide), q_eq, T3, add0]
  exact ⟨T1, T2, rfl, T4, T5, T6⟩
/-- what an act leaves alone in the reference -/
def KD (t0 t : Sg) : Prop := (∀ p, (110 ≤ p ∨ PlP p ∨ p = 11) → t.1 1 p = t0.1 1 p) ∧ (∀ c, ¬ c = 0 → ¬ c = 1 → ¬ c = 11 → t.1 c = t0.1 c) ∧ (∀ k, ¬ k = 25 → ¬ k = 26 → ¬ k = 29 → t.1 0 k = t0.1 0 k) ∧ t.2 = t0.2
theorem kd_l {w : Bool} {t0 t : Sg} (h : KL w t0 t) : KD t0 t := ⟨h.2.1, fun c h1 h2 _ => h.2.2.1 c h1 h2, fun k h1 h2 _ => h.2.2.2.1 k h1 h2, h.2.2.2.2⟩
theorem kd_11 {t0 t : Sg} {k : Nat} {v : Int32} (h : KD t0 t) : KD t0 (pI t 11 k v) := ⟨fun p hp => by rw [q_nc rfl]; exact h.1 p hp, fun c h1 h2 h3 => by rw [pI_o _ _ _ _ _ h3]; exact h.2.1 c h1 h2 h3, fun j h1 h2 h3 => by rw [q_nc rfl]; exact h.2.2.1 j h1 h2 h3, h.2.2.2⟩
theorem kd_29 {t : Sg} {v : Int32} : KD t (pI t 0 29 v) := ⟨fun p hp => q_nc rfl, fun c h1 h2 h3 => pI_o _ _ _ _ _ h1, fun j h1 h2 h3 => by rw [pI_1, if_neg (fun z => h3 z.2)], rfl⟩
theorem kd_t {a b c : Sg} (h : KD a b) (g : KD b c) : KD a c := ⟨fun p hp => (g.1 p hp).trans (h.1 p hp), fun k h1 h2 h3 => (g.2.1 k h1 h2 h3).trans (h.2.1 k h1 h2 h3), fun k h1 h2 h3 => (g.2.2.1 k h1 h2 h3).trans (h.2.2.1 k h1 h2 h3), g.2.2.2.trans h.2.2.2⟩
def ActP (K : Int) (t0 : Sg) (s' : Sg) (r' : Int32) (t' : Sg) : Prop := ((NowG 0 s' t' ∧ DyE s' t' ∧ GnR (t'.1 1) K) ∧ KD t0 t') ∧ ((r' = 1 ∧ TlR 0 s' t') ∨ (r' = 0 ∧ TlR 1 s' t'))
theorem dye_k {s t s' t' : Sg} (D : DyE s t) (h1 : s'.1 26 6 = s.1 26 6) (h2 : t'.1 1 4 = t.1 1 4) : DyE s' t' := by
  unfold DyE
  rw [h1, h2]
  exact D
theorem rain_a {s t : Sg} (H : NowG 0 s t) (T : TlR 0 s t) (D : DyE s t) {K : Int} (hK : 9999 ≤ K ∧ K ≤ 900000000) (G : GnR (t.1 1) K) (g : Int32) : RQ (f_X3_maybeRain_25_26 g s) (bd (f_X12_draw t) (fun r s7 => if r < g then bd (f_X12_rains s7) (fun _ s9 => some ((1 : Int32), pI s9 11 1 ((s9.1 11 1) + 1))) else some (1, s7))) (fun _ s' r' t' => ActP K t s' r' t') := by
  obtain ⟨T1, T2, T3, T4, T5, T6⟩ := T
  unfold f_X3_maybeRain_25_26 f_X12_draw
  refine rq_nC (fun s1 e1 => rm_n (fun t1 f1 => rm_s ?_))
  have H1 : NowG 0 s1 t1 := by
    rw [e1, f1]
    exact ng_k H (fun c hc => pI_o _ _ _ _ _ (by omega)) (fun k hk => by rw [q_nc rfl]) (by rw [pI_1, if_neg (by decide)])
  have d1 : s1.1 4 2 = t1.1 0 29 := by rw [e1, f1, q_eq, q_eq, T1]
  have o1 : ∀ k, ¬ k = 2 → s1.1 4 k = s.1 4 k := fun k hk => by rw [e1, pI_1, if_neg (fun z => hk z.2)]
  have o2 : ∀ k, ¬ k = 29 → t1.1 0 k = t.1 0 k := fun k hk => by rw [f1, pI_1, if_neg (fun z => hk z.2)]
  have o3 : t1.1 11 = t.1 11 := by rw [f1, pI_o _ _ _ _ _ (by decide)]
  have o4 : t1.1 1 = t.1 1 := by rw [f1, pI_o _ _ _ _ _ (by decide)]
  have o5 : s1.1 26 = s.1 26 := by rw [e1, pI_o _ _ _ _ _ (by decide)]
  have T' : TlR 0 s1 t1 := ⟨d1, by rw [o1 3 (by decide), o2 30 (by decide)]; exact T2, by rw [o1 4 (by decide), o3]; exact T3, by rw [o1 5 (by decide), o3]; exact T4, by rw [o1 6 (by decide), o3]; exact T5, by rw [o1 7 (by decide), o3]; exact T6⟩
  have D' : DyE s1 t1 := dye_k D (by rw [o5]) (by rw [o4])
  have G' : GnR (t1.1 1) K := by rw [o4]; exact G
  have K1 : KD t t1 := by rw [f1]; exact kd_29
  rw [d1]
  refine rq_iC (fun c => rq_iM (fun z => absurd (i_lt z) (by have := i_le c; omega)) (fun _ => rq_s ⟨⟨⟨H1, D', G'⟩, K1⟩, Or.inl ⟨rfl, T'⟩⟩)) (fun c => rq_iM (fun _ => ?_) (fun z => absurd (Int32.lt_iff_toInt_lt.mpr (i_nle c)) z))
  have B1 := bdk_of H1
  refine rq_b2 (rq_a (rains_r H1) (fy_X2_letRain_25 s1) (pq_and (kl_rains (w := true) B1 BIG 0 0 0 t1 rfl (by decide) kl_r) (gn_rains (by omega) BIG 0 0 0 t1 rfl (by decide) G' B1.1 H1.2.2.1.2.2.2.1.1))) (fun r s3 r' t9 g => ?_)
  obtain ⟨g1, F, L, G9⟩ := g
  have e4 : ∀ k, 2 ≤ k → k ≤ 7 → s3.1 4 k = s1.1 4 k := fun k k1 k2 => (F 4 k (by
    have : k = 2 ∨ k = 3 ∨ k = 4 ∨ k = 5 ∨ k = 6 ∨ k = 7 := by omega
    rcases this with z | z | z | z | z | z <;> subst z <;> rfl)).1
  obtain ⟨U1, U2, U3, U4, U5, U6⟩ := tl_k T' e4 (L.2.2.1 11 (by decide) (by decide)) (L.2.2.2.1 29 (by decide) (by decide)) (L.2.2.2.1 30 (by decide) (by decide))
  have q1 : ∀ k v, (pI t9 11 1 v).1 0 k = t9.1 0 k := fun k v => q_nc rfl
  have q2 : ∀ k v, ¬ k = 1 → (pI t9 11 1 v).1 11 k = t9.1 11 k := fun k v hk => by rw [pI_1, if_neg (fun z => hk z.2)]
  have q3 : ∀ k v, ¬ k = 5 → (pI s3 4 5 v).1 4 k = s3.1 4 k := fun k v hk => by rw [pI_1, if_neg (fun z => hk z.2)]
  refine rq_s ⟨⟨⟨?_, ?_, ?_⟩, ?_⟩, Or.inl ⟨rfl, ?_⟩⟩
  · exact ng_k g1.2 (fun c hc => pI_o _ _ _ _ _ (by omega)) (fun k hk => by rw [q_nc rfl]) (by rw [q_nc rfl])
  · exact dye_k D' (by rw [pI_o _ _ _ _ _ (by decide)]; exact (F 26 6 rfl).1) (by rw [pI_o _ _ _ _ _ (by decide)]; exact L.1 rfl)
  · rw [pI_o _ _ _ _ _ (by decide)]
    exact G9
  · exact kd_t K1 (kd_11 (kd_l L))
  · unfold TlR
    rw [q1, q1, q2 0 _ (by decide), q2 2 _ (by decide), q2 3 _ (by decide), q3 2 _ (by decide), q3 3 _ (by decide), q3 4 _ (by decide), q3 6 _ (by decide), q3 7 _ (by decide), q_eq, q_eq, U4]
    exact ⟨U1, U2, U3, rfl, U5, U6⟩
theorem strew_a {s t : Sg} (H : NowG 0 s t) (T : TlR 0 s t) (D : DyE s t) {K : Int} (hK : 9999 ≤ K ∧ K ≤ 900000000) (G : GnR (t.1 1) K) {a g : Int32} {h : Nat} (ha : a.toInt = (h : Int)) (hh : h < 8) (ng : ¬ bt (t.1 1 9) h = true) (hg : 1 ≤ g.toInt ∧ g.toInt ≤ 999) : RQ (f_X3_tryStrew_26 a g s) (bd (f_X12_hasRoom a g t) (fun r s11 => if r = 0 then some ((0 : Int32), s11) else bd (f_X12_strews a g s11) (fun _ s13 => some (1, s13)))) (fun _ s' r' t' => ActP K t s' r' t') := by
  unfold f_X3_tryStrew_26
  refine rq_f (room_c H.1.2.1 ha hh g) (room_m ha hh g t) Iff.rfl (fun y => ?_) (fun y => ?_)
  · refine rq_iC (fun z => absurd z i10) (fun _ => rq_iM (fun z => absurd z i10) (fun _ => ?_))
    refine rq_b2 (rq_a (add_r H ha hh ng g) (fy_X2_addSalt a g s) (pq_and (kl_strews (w := true) kl_r ha hh g) (gn_strews G (by omega) ha hh (by omega) y))) (fun _ s4 _ t4 q => rq_s ?_)
    obtain ⟨q1, F, L, G4⟩ := q
    refine ⟨⟨⟨q1.1, dye_k D (F 26 6 rfl).1 (L.1 rfl), G4⟩, kd_l L⟩, Or.inl ⟨rfl, tl_k T (fun k k1 k2 => (F 4 k (by
      have : k = 2 ∨ k = 3 ∨ k = 4 ∨ k = 5 ∨ k = 6 ∨ k = 7 := by omega
      rcases this with z | z | z | z | z | z <;> subst z <;> rfl)).1) (L.2.2.1 11 (by decide) (by decide)) (L.2.2.2.1 29 (by decide) (by decide)) (L.2.2.2.1 30 (by decide) (by decide))⟩⟩
  · refine rq_iC (fun _ => rq_iM (fun _ => rq_s ?_) (fun z => absurd rfl z)) (fun z => absurd rfl z)
    exact ⟨⟨⟨ng_k H (fun c hc => pI_o _ _ _ _ _ (by omega)) (fun k hk => rfl) rfl, dye_k D (by rw [pI_o _ _ _ _ _ (by decide)]) rfl, G⟩, kd_l (kl_r (w := true))⟩, Or.inr ⟨rfl, tl_m T⟩⟩
theorem buy_a {s t : Sg} (H : NowG 0 s t) (T : TlR 0 s t) (D : DyE s t) {K : Int} (hK : 9999 ≤ K ∧ K ≤ 900000000) (G : GnR (t.1 1) K) {a g c b : Int32} {j h : Nat} (ha : a.toInt = (j : Int)) (hj : (j : Int) < (t.1 1 3).toInt) (hc : c.toInt = (h : Int)) (hh : h < 8) (ng : ¬ bt (t.1 1 9) h = true) (hg : 1 ≤ g.toInt ∧ g.toInt ≤ 999) (hb : t.1 1 ((b + 3).toNatClampNeg) = a) : RQ (f_X3_tryBuy_25_26 a g c s) (bd (f_X12_hasRoom c g t) (fun r14 s15 => if r14 = 0 then some ((0 : Int32), s15) else ck (inr (b + 3) 2880) (ck (inr (92 + (3 * (s15.1 1 ((b + 3).toNatClampNeg)))) 2880) (if g ≤ (s15.1 1 ((92 + (3 * (s15.1 1 ((b + 3).toNatClampNeg)))).toNatClampNeg)) then bd (f_X12_buys (s15.1 1 ((b + 3).toNatClampNeg)) g c s15) (fun r18 s19 => some (1, s19)) else some (0, s15))))) (fun _ s' r' t' => ActP K t s' r' t') := by
  have j4 : j < 4 := by
    have := H.1.1.2.1.2.2.2.2
    omega
  have x := gx_x ha j4
  have miss : ActP K t (pI s 4 4 ((s.1 4 4) + 1)) 0 t := ⟨⟨⟨ng_k H (fun c hc => pI_o _ _ _ _ _ (by omega)) (fun k hk => rfl) rfl, dye_k D (by rw [pI_o _ _ _ _ _ (by decide)]) rfl, G⟩, kd_l (kl_r (w := true))⟩, Or.inr ⟨rfl, tl_m T⟩⟩
  have st : s.1 44 j = t.1 1 (92 + 3 * j) := H.1.2.1 44 j _ (Or.inr (Or.inl ⟨j4, rfl, rfl⟩))
  unfold f_X3_tryBuy_25_26
  refine rq_f (room_c H.1.2.1 hc hh g) (room_m hc hh g t) Iff.rfl (fun y => ?_) (fun y => ?_)
  · refine rq_iC (fun z => absurd z i10) (fun _ => rq_iM (fun z => absurd z i10) (fun _ => ?_))
    have fin : RQ (bd (f_X2_addBought_25 a g c s) (fun r4 s5 => some ((), s5))) (bd (f_X12_buys a g c t) (fun r18 s19 => some ((1 : Int32), s19))) (fun _ s' r' t' => ActP K t s' r' t') := by
      refine rq_b2 (rq_a (buys_r H ha hj hc hh ng g) (fy_X2_addBought_25 a g c s) (pq_and (kl_buys (w := true) kl_r ha j4 hc hh g) (gn_buys G (by omega) ha j4 hc hh (by omega) (H.2.2.1.2.2.1 j hj).2 y))) (fun _ s4 _ t4 q => rq_s ?_)
      obtain ⟨q1, F, L, G4⟩ := q
      refine ⟨⟨⟨q1.2, dye_k D (F 26 6 rfl).1 (L.1 rfl), G4⟩, kd_l L⟩, Or.inl ⟨rfl, tl_k T (fun k k1 k2 => (F 4 k (by
        have : k = 2 ∨ k = 3 ∨ k = 4 ∨ k = 5 ∨ k = 6 ∨ k = 7 := by omega
        rcases this with z | z | z | z | z | z <;> subst z <;> rfl)).1) (L.2.2.1 11 (by decide) (by decide)) (L.2.2.2.1 29 (by decide) (by decide)) (L.2.2.2.1 30 (by decide) (by decide))⟩⟩
    rw [hb]
    refine rq_cC (fun _ => rq_cM (fun _ => rq_cM (fun _ => ?_)))
    rw [x.1, cl_h ha, st]
    exact rq_iC (fun z => rq_iM (fun u => absurd (i_lt z) (by have := i_le u; omega)) (fun _ => rq_s miss)) (fun z => rq_iM (fun _ => fin) (fun u => absurd (Int32.le_iff_toInt_le.mpr (i_nlt z)) u))
  · exact rq_iC (fun _ => rq_iM (fun _ => rq_s miss) (fun z => absurd rfl z)) (fun z => absurd rfl z)
theorem sweep_a {s t : Sg} (H : NowG 0 s t) (T : TlR 0 s t) (D : DyE s t) {K : Int} (hK : 9999 ≤ K ∧ K ≤ 900000000) (G : GnR (t.1 1) K) {a : Int32} {h : Nat} (ha : a.toInt = (h : Int)) (hh : h < 8) : RQ (f_X2_clearStep a s) (bd (f_X12_sweeps a t) (fun r20 s21 => if r20 < 0 then some ((0 : Int32), s21) else some (1, s21))) (fun _ s' r' t' => ActP K t s' r' t') := by
  have key : RQ (bd (f_X2_clearStep a s) (fun r s => some (r, s))) (bd (f_X12_sweeps a t) (fun r20 s21 => if r20 < 0 then some ((0 : Int32), s21) else some (1, s21))) (fun _ s' r' t' => ActP K t s' r' t') := by
    refine rq_b2 (rq_a (sweeps_r H ha hh) (fy_X2_clearStep a s) (pq_and (kl_sweeps (w := true) kl_r ha hh) (gn_sweeps G (by omega) ha hh))) (fun r s4 r' t4 q => ?_)
    obtain ⟨q1, F, L, G4, q5, q6⟩ := q
    have c0 : (0 : Int32).toInt = 0 := rfl
    refine rq_iM (fun z => absurd (i_lt z) (by omega)) (fun _ => rq_s ⟨⟨⟨q1.2, dye_k D (F 26 6 rfl).1 (L.1 rfl), G4⟩, kd_l L⟩, Or.inl ⟨rfl, tl_k T (fun k k1 k2 => (F 4 k (by
      have : k = 2 ∨ k = 3 ∨ k = 4 ∨ k = 5 ∨ k = 6 ∨ k = 7 := by omega
      rcases this with z | z | z | z | z | z <;> subst z <;> rfl)).1) (L.2.2.1 11 (by decide) (by decide)) (L.2.2.2.1 29 (by decide) (by decide)) (L.2.2.2.1 30 (by decide) (by decide))⟩⟩)
  intro r s' r' t' e1 e2
  exact key r s' r' t' (by rw [e1]; rfl) e2
theorem snow_a {s t : Sg} (H : NowG 0 s t) (T : TlR 0 s t) (D : DyE s t) {K : Int} (G : GnR (t.1 1) K) {g : Int32} (hg : 0 ≤ g.toInt ∧ g.toInt ≤ 99) : RQ (f_X2_letSnow_25 g s) (bd (f_X12_snows g t) (fun _ s23 => some ((1 : Int32), s23))) (fun _ s' r' t' => ActP K t s' r' t') := by
  have B := bdk_of H
  have key : RQ (bd (f_X2_letSnow_25 g s) (fun r s => some (r, s))) (bd (f_X12_snows g t) (fun _ s23 => some ((1 : Int32), s23))) (fun _ s' r' t' => ActP K t s' r' t') := by
    refine rq_b2 (rq_a (snows_r H g) (fy_X2_letSnow_25 g s) (pq_and (kl_snows (w := true) B g BIG 0 0 t rfl (by decide) kl_r) (gn_snows g (by omega) BIG 0 0 t rfl (by decide) G B.1))) (fun r s4 r' t4 q => rq_s ?_)
    obtain ⟨q1, F, L, G4⟩ := q
    exact ⟨⟨⟨q1, dye_k D (F 26 6 rfl).1 (L.1 rfl), G4⟩, kd_l L⟩, Or.inl ⟨rfl, tl_k T (fun k k1 k2 => (F 4 k (by
      have : k = 2 ∨ k = 3 ∨ k = 4 ∨ k = 5 ∨ k = 6 ∨ k = 7 := by omega
      rcases this with z | z | z | z | z | z <;> subst z <;> rfl)).1) (L.2.2.1 11 (by decide) (by decide)) (L.2.2.2.1 29 (by decide) (by decide)) (L.2.2.2.1 30 (by decide) (by decide))⟩⟩
  intro r s' r' t' e1 e2
  exact key r s' r' t' (by rw [e1]; rfl) e2
def ActPz (K : Int) (t0 : Sg) (s' : Sg) (r' : Int32) (t' : Sg) : Prop := ((NowG 27 s' t' ∧ DyEz s' t' ∧ GnR (t'.1 1) K) ∧ KD t0 t') ∧ ((r' = 1 ∧ TlRz 0 s' t') ∨ (r' = 0 ∧ TlRz 1 s' t'))
theorem dye_kz {s t s' t' : Sg} (D : DyEz s t) (h1 : s'.1 53 6 = s.1 53 6) (h2 : t'.1 1 4 = t.1 1 4) : DyEz s' t' := by
  unfold DyEz
  rw [h1, h2]
  exact D
theorem rain_az {s t : Sg} (H : NowG 27 s t) (T : TlRz 0 s t) (D : DyEz s t) {K : Int} (hK : 9999 ≤ K ∧ K ≤ 900000000) (G : GnR (t.1 1) K) (g : Int32) : RQ (f_X3_maybeRain_25_53_5 g s) (bd (f_X12_draw t) (fun r s7 => if r < g then bd (f_X12_rains s7) (fun _ s9 => some ((1 : Int32), pI s9 11 1 ((s9.1 11 1) + 1))) else some (1, s7))) (fun _ s' r' t' => ActPz K t s' r' t') := by
  obtain ⟨T1, T2, T3, T4, T5, T6⟩ := T
  unfold f_X3_maybeRain_25_53_5 f_X12_draw
  refine rq_nC (fun s1 e1 => rm_n (fun t1 f1 => rm_s ?_))
  have H1 : NowG 27 s1 t1 := by
    rw [e1, f1]
    exact ng_k H (fun c hc => pI_o _ _ _ _ _ (by omega)) (fun k hk => by rw [q_nc rfl]) (by rw [pI_1, if_neg (by decide)])
  have d1 : s1.1 5 2 = t1.1 0 29 := by rw [e1, f1, q_eq, q_eq, T1]
  have o1 : ∀ k, ¬ k = 2 → s1.1 5 k = s.1 5 k := fun k hk => by rw [e1, pI_1, if_neg (fun z => hk z.2)]
  have o2 : ∀ k, ¬ k = 29 → t1.1 0 k = t.1 0 k := fun k hk => by rw [f1, pI_1, if_neg (fun z => hk z.2)]
  have o3 : t1.1 11 = t.1 11 := by rw [f1, pI_o _ _ _ _ _ (by decide)]
  have o4 : t1.1 1 = t.1 1 := by rw [f1, pI_o _ _ _ _ _ (by decide)]
  have o5 : s1.1 53 = s.1 53 := by rw [e1, pI_o _ _ _ _ _ (by decide)]
  have T' : TlRz 0 s1 t1 := ⟨d1, by rw [o1 3 (by decide), o2 30 (by decide)]; exact T2, by rw [o1 4 (by decide), o3]; exact T3, by rw [o1 5 (by decide), o3]; exact T4, by rw [o1 6 (by decide), o3]; exact T5, by rw [o1 7 (by decide), o3]; exact T6⟩
  have D' : DyEz s1 t1 := dye_kz D (by rw [o5]) (by rw [o4])
  have G' : GnR (t1.1 1) K := by rw [o4]; exact G
  have K1 : KD t t1 := by rw [f1]; exact kd_29
  rw [d1]
  refine rq_iC (fun c => rq_iM (fun z => absurd (i_lt z) (by have := i_le c; omega)) (fun _ => rq_s ⟨⟨⟨H1, D', G'⟩, K1⟩, Or.inl ⟨rfl, T'⟩⟩)) (fun c => rq_iM (fun _ => ?_) (fun z => absurd (Int32.lt_iff_toInt_lt.mpr (i_nle c)) z))
  have B1 := bdk_of H1
  refine rq_b2 (rq_a (rains_rz H1) (fy_X2_letRain_25_53 s1) (pq_and (kl_rains (w := true) B1 BIG 0 0 0 t1 rfl (by decide) kl_r) (gn_rains (by omega) BIG 0 0 0 t1 rfl (by decide) G' B1.1 H1.2.2.1.2.2.2.1.1))) (fun r s3 r' t9 g => ?_)
  obtain ⟨g1, F, L, G9⟩ := g
  have e4 : ∀ k, 2 ≤ k → k ≤ 7 → s3.1 5 k = s1.1 5 k := fun k k1 k2 => (F 5 k (by
    have : k = 2 ∨ k = 3 ∨ k = 4 ∨ k = 5 ∨ k = 6 ∨ k = 7 := by omega
    rcases this with z | z | z | z | z | z <;> subst z <;> rfl)).1
  obtain ⟨U1, U2, U3, U4, U5, U6⟩ := tl_kz T' e4 (L.2.2.1 11 (by decide) (by decide)) (L.2.2.2.1 29 (by decide) (by decide)) (L.2.2.2.1 30 (by decide) (by decide))
  have q1 : ∀ k v, (pI t9 11 1 v).1 0 k = t9.1 0 k := fun k v => q_nc rfl
  have q2 : ∀ k v, ¬ k = 1 → (pI t9 11 1 v).1 11 k = t9.1 11 k := fun k v hk => by rw [pI_1, if_neg (fun z => hk z.2)]
  have q3 : ∀ k v, ¬ k = 5 → (pI s3 5 5 v).1 5 k = s3.1 5 k := fun k v hk => by rw [pI_1, if_neg (fun z => hk z.2)]
  refine rq_s ⟨⟨⟨?_, ?_, ?_⟩, ?_⟩, Or.inl ⟨rfl, ?_⟩⟩
  · exact ng_k g1.2 (fun c hc => pI_o _ _ _ _ _ (by omega)) (fun k hk => by rw [q_nc rfl]) (by rw [q_nc rfl])
  · exact dye_kz D' (by rw [pI_o _ _ _ _ _ (by decide)]; exact (F 53 6 rfl).1) (by rw [pI_o _ _ _ _ _ (by decide)]; exact L.1 rfl)
  · rw [pI_o _ _ _ _ _ (by decide)]
    exact G9
  · exact kd_t K1 (kd_11 (kd_l L))
  · unfold TlRz
    rw [q1, q1, q2 0 _ (by decide), q2 2 _ (by decide), q2 3 _ (by decide), q3 2 _ (by decide), q3 3 _ (by decide), q3 4 _ (by decide), q3 6 _ (by decide), q3 7 _ (by decide), q_eq, q_eq, U4]
    exact ⟨U1, U2, U3, rfl, U5, U6⟩
theorem strew_az {s t : Sg} (H : NowG 27 s t) (T : TlRz 0 s t) (D : DyEz s t) {K : Int} (hK : 9999 ≤ K ∧ K ≤ 900000000) (G : GnR (t.1 1) K) {a g : Int32} {h : Nat} (ha : a.toInt = (h : Int)) (hh : h < 8) (ng : ¬ bt (t.1 1 9) h = true) (hg : 1 ≤ g.toInt ∧ g.toInt ≤ 999) : RQ (f_X3_tryStrew_53_5 a g s) (bd (f_X12_hasRoom a g t) (fun r s11 => if r = 0 then some ((0 : Int32), s11) else bd (f_X12_strews a g s11) (fun _ s13 => some (1, s13)))) (fun _ s' r' t' => ActPz K t s' r' t') := by
  unfold f_X3_tryStrew_53_5
  refine rq_f (room_cz H.1.2.1 ha hh g) (room_m ha hh g t) Iff.rfl (fun y => ?_) (fun y => ?_)
  · refine rq_iC (fun z => absurd z i10) (fun _ => rq_iM (fun z => absurd z i10) (fun _ => ?_))
    refine rq_b2 (rq_a (add_rz H ha hh ng g) (fy_X2_addSalt_53 a g s) (pq_and (kl_strews (w := true) kl_r ha hh g) (gn_strews G (by omega) ha hh (by omega) y))) (fun _ s4 _ t4 q => rq_s ?_)
    obtain ⟨q1, F, L, G4⟩ := q
    refine ⟨⟨⟨q1.1, dye_kz D (F 53 6 rfl).1 (L.1 rfl), G4⟩, kd_l L⟩, Or.inl ⟨rfl, tl_kz T (fun k k1 k2 => (F 5 k (by
      have : k = 2 ∨ k = 3 ∨ k = 4 ∨ k = 5 ∨ k = 6 ∨ k = 7 := by omega
      rcases this with z | z | z | z | z | z <;> subst z <;> rfl)).1) (L.2.2.1 11 (by decide) (by decide)) (L.2.2.2.1 29 (by decide) (by decide)) (L.2.2.2.1 30 (by decide) (by decide))⟩⟩
  · refine rq_iC (fun _ => rq_iM (fun _ => rq_s ?_) (fun z => absurd rfl z)) (fun z => absurd rfl z)
    exact ⟨⟨⟨ng_k H (fun c hc => pI_o _ _ _ _ _ (by omega)) (fun k hk => rfl) rfl, dye_kz D (by rw [pI_o _ _ _ _ _ (by decide)]) rfl, G⟩, kd_l (kl_r (w := true))⟩, Or.inr ⟨rfl, tl_mz T⟩⟩
theorem buy_az {s t : Sg} (H : NowG 27 s t) (T : TlRz 0 s t) (D : DyEz s t) {K : Int} (hK : 9999 ≤ K ∧ K ≤ 900000000) (G : GnR (t.1 1) K) {a g c b : Int32} {j h : Nat} (ha : a.toInt = (j : Int)) (hj : (j : Int) < (t.1 1 3).toInt) (hc : c.toInt = (h : Int)) (hh : h < 8) (ng : ¬ bt (t.1 1 9) h = true) (hg : 1 ≤ g.toInt ∧ g.toInt ≤ 999) (hb : t.1 1 ((b + 3).toNatClampNeg) = a) : RQ (f_X3_tryBuy_25_53_5 a g c s) (bd (f_X12_hasRoom c g t) (fun r14 s15 => if r14 = 0 then some ((0 : Int32), s15) else ck (inr (b + 3) 2880) (ck (inr (92 + (3 * (s15.1 1 ((b + 3).toNatClampNeg)))) 2880) (if g ≤ (s15.1 1 ((92 + (3 * (s15.1 1 ((b + 3).toNatClampNeg)))).toNatClampNeg)) then bd (f_X12_buys (s15.1 1 ((b + 3).toNatClampNeg)) g c s15) (fun r18 s19 => some (1, s19)) else some (0, s15))))) (fun _ s' r' t' => ActPz K t s' r' t') := by
  have j4 : j < 4 := by
    have := H.1.1.2.1.2.2.2.2
    omega
  have x := gx_x ha j4
  have miss : ActPz K t (pI s 5 4 ((s.1 5 4) + 1)) 0 t := ⟨⟨⟨ng_k H (fun c hc => pI_o _ _ _ _ _ (by omega)) (fun k hk => rfl) rfl, dye_kz D (by rw [pI_o _ _ _ _ _ (by decide)]) rfl, G⟩, kd_l (kl_r (w := true))⟩, Or.inr ⟨rfl, tl_mz T⟩⟩
  have st : s.1 71 j = t.1 1 (92 + 3 * j) := H.1.2.1 71 j _ (Or.inr (Or.inl ⟨j4, rfl, rfl⟩))
  unfold f_X3_tryBuy_25_53_5
  refine rq_f (room_cz H.1.2.1 hc hh g) (room_m hc hh g t) Iff.rfl (fun y => ?_) (fun y => ?_)
  · refine rq_iC (fun z => absurd z i10) (fun _ => rq_iM (fun z => absurd z i10) (fun _ => ?_))
    have fin : RQ (bd (f_X2_addBought_25_53 a g c s) (fun r4 s5 => some ((), s5))) (bd (f_X12_buys a g c t) (fun r18 s19 => some ((1 : Int32), s19))) (fun _ s' r' t' => ActPz K t s' r' t') := by
      refine rq_b2 (rq_a (buys_rz H ha hj hc hh ng g) (fy_X2_addBought_25_53 a g c s) (pq_and (kl_buys (w := true) kl_r ha j4 hc hh g) (gn_buys G (by omega) ha j4 hc hh (by omega) (H.2.2.1.2.2.1 j hj).2 y))) (fun _ s4 _ t4 q => rq_s ?_)
      obtain ⟨q1, F, L, G4⟩ := q
      refine ⟨⟨⟨q1.2, dye_kz D (F 53 6 rfl).1 (L.1 rfl), G4⟩, kd_l L⟩, Or.inl ⟨rfl, tl_kz T (fun k k1 k2 => (F 5 k (by
        have : k = 2 ∨ k = 3 ∨ k = 4 ∨ k = 5 ∨ k = 6 ∨ k = 7 := by omega
        rcases this with z | z | z | z | z | z <;> subst z <;> rfl)).1) (L.2.2.1 11 (by decide) (by decide)) (L.2.2.2.1 29 (by decide) (by decide)) (L.2.2.2.1 30 (by decide) (by decide))⟩⟩
    rw [hb]
    refine rq_cC (fun _ => rq_cM (fun _ => rq_cM (fun _ => ?_)))
    rw [x.1, cl_h ha, st]
    exact rq_iC (fun z => rq_iM (fun u => absurd (i_lt z) (by have := i_le u; omega)) (fun _ => rq_s miss)) (fun z => rq_iM (fun _ => fin) (fun u => absurd (Int32.le_iff_toInt_le.mpr (i_nlt z)) u))
  · exact rq_iC (fun _ => rq_iM (fun _ => rq_s miss) (fun z => absurd rfl z)) (fun z => absurd rfl z)
theorem sweep_az {s t : Sg} (H : NowG 27 s t) (T : TlRz 0 s t) (D : DyEz s t) {K : Int} (hK : 9999 ≤ K ∧ K ≤ 900000000) (G : GnR (t.1 1) K) {a : Int32} {h : Nat} (ha : a.toInt = (h : Int)) (hh : h < 8) : RQ (f_X2_clearStep_53 a s) (bd (f_X12_sweeps a t) (fun r20 s21 => if r20 < 0 then some ((0 : Int32), s21) else some (1, s21))) (fun _ s' r' t' => ActPz K t s' r' t') := by
  have key : RQ (bd (f_X2_clearStep_53 a s) (fun r s => some (r, s))) (bd (f_X12_sweeps a t) (fun r20 s21 => if r20 < 0 then some ((0 : Int32), s21) else some (1, s21))) (fun _ s' r' t' => ActPz K t s' r' t') := by
    refine rq_b2 (rq_a (sweeps_rz H ha hh) (fy_X2_clearStep_53 a s) (pq_and (kl_sweeps (w := true) kl_r ha hh) (gn_sweeps G (by omega) ha hh))) (fun r s4 r' t4 q => ?_)
    obtain ⟨q1, F, L, G4, q5, q6⟩ := q
    have c0 : (0 : Int32).toInt = 0 := rfl
    refine rq_iM (fun z => absurd (i_lt z) (by omega)) (fun _ => rq_s ⟨⟨⟨q1.2, dye_kz D (F 53 6 rfl).1 (L.1 rfl), G4⟩, kd_l L⟩, Or.inl ⟨rfl, tl_kz T (fun k k1 k2 => (F 5 k (by
      have : k = 2 ∨ k = 3 ∨ k = 4 ∨ k = 5 ∨ k = 6 ∨ k = 7 := by omega
      rcases this with z | z | z | z | z | z <;> subst z <;> rfl)).1) (L.2.2.1 11 (by decide) (by decide)) (L.2.2.2.1 29 (by decide) (by decide)) (L.2.2.2.1 30 (by decide) (by decide))⟩⟩)
  intro r s' r' t' e1 e2
  exact key r s' r' t' (by rw [e1]; rfl) e2
theorem snow_az {s t : Sg} (H : NowG 27 s t) (T : TlRz 0 s t) (D : DyEz s t) {K : Int} (G : GnR (t.1 1) K) {g : Int32} (hg : 0 ≤ g.toInt ∧ g.toInt ≤ 99) : RQ (f_X2_letSnow_25_53 g s) (bd (f_X12_snows g t) (fun _ s23 => some ((1 : Int32), s23))) (fun _ s' r' t' => ActPz K t s' r' t') := by
  have B := bdk_of H
  have key : RQ (bd (f_X2_letSnow_25_53 g s) (fun r s => some (r, s))) (bd (f_X12_snows g t) (fun _ s23 => some ((1 : Int32), s23))) (fun _ s' r' t' => ActPz K t s' r' t') := by
    refine rq_b2 (rq_a (snows_rz H g) (fy_X2_letSnow_25_53 g s) (pq_and (kl_snows (w := true) B g BIG 0 0 t rfl (by decide) kl_r) (gn_snows g (by omega) BIG 0 0 t rfl (by decide) G B.1))) (fun r s4 r' t4 q => rq_s ?_)
    obtain ⟨q1, F, L, G4⟩ := q
    exact ⟨⟨⟨q1, dye_kz D (F 53 6 rfl).1 (L.1 rfl), G4⟩, kd_l L⟩, Or.inl ⟨rfl, tl_kz T (fun k k1 k2 => (F 5 k (by
      have : k = 2 ∨ k = 3 ∨ k = 4 ∨ k = 5 ∨ k = 6 ∨ k = 7 := by omega
      rcases this with z | z | z | z | z | z <;> subst z <;> rfl)).1) (L.2.2.1 11 (by decide) (by decide)) (L.2.2.2.1 29 (by decide) (by decide)) (L.2.2.2.1 30 (by decide) (by decide))⟩⟩
  intro r s' r' t' e1 e2
  exact key r s' r' t' (by rw [e1]; rfl) e2
theorem ov_n {s t : Sg} (H : NowG 0 s t) {i : Nat} (hi : i < 32) (h : (t.1 1 1).toInt ≤ (i : Int)) : bt (s.1 26 5) i = false := by
  have w := H.1.2.2
  rw [w.2.2 i hi]
  exact decide_eq_false (fun y => by
    have u := w.2.1 i y.1 h
    rw [u] at y
    exact absurd y.2 (by decide))
theorem night_a {s t : Sg} (H : NowG 0 s t) (T : TlR 0 s t) (D : DyE s t) {K : Int} (hK : 9999 ≤ K ∧ K ≤ 900000000) (G : GnR (t.1 1) K) : RQ (f_X3_tryNight_25_26 s) (if (t.1 1 4) = 999 then some ((0 : Int32), t) else bd (f_X12_nightGoes t) (fun _ s25 => nmx (pI s25 11 2 ((s25.1 11 2) + (s25.1 0 25))) (fun s26 => nmx (pI s26 11 3 ((s26.1 11 3) + (s26.1 0 26))) (fun s27 => some (1, s27))))) (fun _ s' r' t' => ActP (K + 400) t s' r' t') := by
  have c999 : (999 : Int32).toInt = 999 := rfl
  have e1 : (1 : Int32).toInt = 1 := rfl
  have B := bdk_of H
  obtain ⟨D1, D2, D3⟩ := D
  unfold f_X3_tryNight_25_26
  rw [D1]
  refine rq_iC (fun c => rq_iM (fun z => ?_) (fun _ => ?_)) (fun c => rq_iM (fun _ => rq_s ?_) (fun z => ?_))
  · rw [z] at c
    exact absurd c (by decide)
  · have c := i_lt c
    refine rq_b2 (rq_a (night_r H) (fy_X2_passNight_25 s) (pq_and (kl_night B) (gn_night hK B (fun c hc => (H.2.2.1.2.1 c hc).1) G))) (fun _ s2 _ t2 q => ?_)
    obtain ⟨⟨N1, N2, N3, N4, N5⟩, F, L, G2⟩ := q
    have e4 : ∀ k, 2 ≤ k → k ≤ 7 → s2.1 4 k = s.1 4 k := fun k k1 k2 => (F 4 k (by
      have : k = 2 ∨ k = 3 ∨ k = 4 ∨ k = 5 ∨ k = 6 ∨ k = 7 := by omega
      rcases this with z | z | z | z | z | z <;> subst z <;> rfl)).1
    obtain ⟨U1, U2, U3, U4, U5, U6⟩ := tl_k T e4 (L.2.2.1 11 (by decide) (by decide)) (L.2.2.2.1 29 (by decide) (by decide)) (L.2.2.2.1 30 (by decide) (by decide))
    have q1 : t2.1 1 1 = t.1 1 1 := L.2.1 1 (plq (plp_0 (by omega)))
    have bQ := B.2.1
    have o1 : ∀ i : Nat, i < 32 → (t.1 1 1).toInt ≤ (i : Int) → bt (s.1 26 5) i = false := fun i hi h => ov_n H hi h
    have o2 : ∀ i : Nat, i < 32 → (t.1 1 1).toInt ≤ (i : Int) → bt (s2.1 26 5) i = false := fun i hi h => ov_n N1 hi (by rw [q1]; exact h)
    have w1 : ∀ x y : Int32, (∀ i : Nat, i < 32 → (t.1 1 1).toInt ≤ (i : Int) → bt x i = false) → bcV (x &&& (y ^^^ (-1))) = cntI (fun q => bt x q && !bt y q) (t.1 1 1).toInt.toNat := fun x y hx => by
      rw [bc_v (fun i hi h8 => by rw [bt_and, hx i hi (by omega), Bool.false_and])]
      rw [cnt_x (Q := (t.1 1 1).toInt.toNat) 8 (by omega) (fun q h1 h2 => by rw [bt_and, hx q (by omega) (by omega), Bool.false_and])]
      exact cnt_c _ (fun q hq => by rw [bt_and, bt_not _ (by omega)])
    refine rq_bC (bc_p _ s2) (fun r3 s4 e => ?_)
    obtain ⟨es, e3⟩ := e
    rw [es]
    have k5 : (pI s2 4 6 ((s2.1 4 6) + r3)).1 26 5 = s2.1 26 5 := by rw [pI_o _ _ _ _ _ (by decide)]
    rw [k5]
    refine rq_bC (bc_p _ _) (fun r5 s6 e => ?_)
    obtain ⟨es, e5⟩ := e
    rw [es]
    refine rq_nC (fun s7 f7 => rq_nM (fun t3 g3 => rq_nM (fun t5 g5 => rq_s ?_)))
    have a3 : r3 = t2.1 0 25 := by
      rw [e3, w1 _ _ o2, N4]
      exact cnt_c _ (fun q _ => by cases bt (s.1 26 5) q <;> cases bt (s2.1 26 5) q <;> rfl)
    have a5 : r5 = t2.1 0 26 := by rw [e5, w1 _ _ o1, N5]
    have k7 : s7 = pI (pI s2 4 6 ((s2.1 4 6) + r3)) 4 7 ((s2.1 4 7) + r5) := by rw [f7, pI_1 s2 4 6 _ 4 7, if_neg (by decide)]
    have k5' : t5 = pI (pI t2 11 2 ((t2.1 11 2) + (t2.1 0 25))) 11 3 ((t2.1 11 3) + (t2.1 0 26)) := by rw [g5, g3, pI_1 t2 11 2 _ 11 3, if_neg (by decide), pI_o t2 11 2 _ 0 (by decide)]
    have sc : ∀ k, s7.1 4 k = if k = 7 then (s2.1 4 7) + r5 else if k = 6 then (s2.1 4 6) + r3 else s2.1 4 k := fun k => by
      rw [k7, pI_1]
      by_cases z : k = 7
      · rw [if_pos ⟨rfl, z⟩, if_pos z]
      · rw [if_neg (fun y => z y.2), if_neg z, pI_1]
        by_cases z2 : k = 6
        · rw [if_pos ⟨rfl, z2⟩, if_pos z2]
        · rw [if_neg (fun y => z2 y.2), if_neg z2]
    have tc : ∀ k, t5.1 11 k = if k = 3 then (t2.1 11 3) + (t2.1 0 26) else if k = 2 then (t2.1 11 2) + (t2.1 0 25) else t2.1 11 k := fun k => by
      rw [k5', pI_1]
      by_cases z : k = 3
      · rw [if_pos ⟨rfl, z⟩, if_pos z]
      · rw [if_neg (fun y => z y.2), if_neg z, pI_1]
        by_cases z2 : k = 2
        · rw [if_pos ⟨rfl, z2⟩, if_pos z2]
        · rw [if_neg (fun y => z2 y.2), if_neg z2]
    have so : ∀ c, ¬ c = 4 → s7.1 c = s2.1 c := fun c hc => by rw [k7, pI_o _ _ _ _ _ hc, pI_o _ _ _ _ _ hc]
    have to : ∀ c, ¬ c = 11 → t5.1 c = t2.1 c := fun c hc => by rw [k5', pI_o _ _ _ _ _ hc, pI_o _ _ _ _ _ hc]
    refine ⟨⟨⟨?_, ⟨?_, ?_, ?_⟩, ?_⟩, ?_⟩, Or.inl ⟨rfl, ?_⟩⟩
    · exact ng_k N1 (fun c hc => so c (by omega)) (fun k hk => by rw [to 1 (by decide)]) (by rw [to 0 (by decide)])
    · rw [so 26 (by decide), to 1 (by decide), N2, N3, D1]
      have ea : (t.1 1 4 + 1).toInt = (t.1 1 4).toInt + 1 := i_addx _ _ (by omega)
      by_cases z : t.1 1 4 + 1 < 999
      · rw [if_pos z]
      · rw [if_neg z]
        have := i_nlt z
        exact Int32.toInt_inj.mp (by omega)
    · rw [to 1 (by decide), N3, i_addx _ _ (by omega)]
      omega
    · rw [to 1 (by decide), N3, i_addx _ _ (by omega)]
      omega
    · rw [to 1 (by decide)]
      exact G2
    · rw [k5']
      exact kd_11 (kd_11 (kd_l L))
    · unfold TlR
      rw [sc 2, sc 3, sc 4, sc 5, sc 6, sc 7, tc 0, tc 1, tc 2, tc 3, to 0 (by decide)]
      refine ⟨U1, U2, U3, U4, ?_, ?_⟩
      · show (s2.1 4 6) + r3 = (t2.1 11 2) + (t2.1 0 25)
        rw [U5, a3]
      · show (s2.1 4 7) + r5 = (t2.1 11 3) + (t2.1 0 26)
        rw [U6, a5]
  · exact ⟨⟨⟨ng_k H (fun c hc => pI_o _ _ _ _ _ (by omega)) (fun k hk => rfl) rfl, dye_k ⟨D1, D2, D3⟩ (by rw [pI_o _ _ _ _ _ (by decide)]) rfl, gn_up G (by omega)⟩, kd_l (kl_r (w := true))⟩, Or.inr ⟨rfl, tl_m T⟩⟩
  · have := i_nlt c
    exact absurd (Int32.toInt_inj.mp (by omega)) z
theorem ov_nz {s t : Sg} (H : NowG 27 s t) {i : Nat} (hi : i < 32) (h : (t.1 1 1).toInt ≤ (i : Int)) : bt (s.1 53 5) i = false := by
  have w := H.1.2.2
  rw [w.2.2 i hi]
  exact decide_eq_false (fun y => by
    have u := w.2.1 i y.1 h
    rw [u] at y
    exact absurd y.2 (by decide))
theorem night_az {s t : Sg} (H : NowG 27 s t) (T : TlRz 0 s t) (D : DyEz s t) {K : Int} (hK : 9999 ≤ K ∧ K ≤ 900000000) (G : GnR (t.1 1) K) : RQ (f_X3_tryNight_25_53_5 s) (if (t.1 1 4) = 999 then some ((0 : Int32), t) else bd (f_X12_nightGoes t) (fun _ s25 => nmx (pI s25 11 2 ((s25.1 11 2) + (s25.1 0 25))) (fun s26 => nmx (pI s26 11 3 ((s26.1 11 3) + (s26.1 0 26))) (fun s27 => some (1, s27))))) (fun _ s' r' t' => ActPz (K + 400) t s' r' t') := by
  have c999 : (999 : Int32).toInt = 999 := rfl
  have e1 : (1 : Int32).toInt = 1 := rfl
  have B := bdk_of H
  obtain ⟨D1, D2, D3⟩ := D
  unfold f_X3_tryNight_25_53_5
  rw [D1]
  refine rq_iC (fun c => rq_iM (fun z => ?_) (fun _ => ?_)) (fun c => rq_iM (fun _ => rq_s ?_) (fun z => ?_))
  · rw [z] at c
    exact absurd c (by decide)
  · have c := i_lt c
    refine rq_b2 (rq_a (night_rz H) (fy_X2_passNight_25_53 s) (pq_and (kl_night B) (gn_night hK B (fun c hc => (H.2.2.1.2.1 c hc).1) G))) (fun _ s2 _ t2 q => ?_)
    obtain ⟨⟨N1, N2, N3, N4, N5⟩, F, L, G2⟩ := q
    have e4 : ∀ k, 2 ≤ k → k ≤ 7 → s2.1 5 k = s.1 5 k := fun k k1 k2 => (F 5 k (by
      have : k = 2 ∨ k = 3 ∨ k = 4 ∨ k = 5 ∨ k = 6 ∨ k = 7 := by omega
      rcases this with z | z | z | z | z | z <;> subst z <;> rfl)).1
    obtain ⟨U1, U2, U3, U4, U5, U6⟩ := tl_kz T e4 (L.2.2.1 11 (by decide) (by decide)) (L.2.2.2.1 29 (by decide) (by decide)) (L.2.2.2.1 30 (by decide) (by decide))
    have q1 : t2.1 1 1 = t.1 1 1 := L.2.1 1 (plq (plp_0 (by omega)))
    have bQ := B.2.1
    have o1 : ∀ i : Nat, i < 32 → (t.1 1 1).toInt ≤ (i : Int) → bt (s.1 53 5) i = false := fun i hi h => ov_nz H hi h
    have o2 : ∀ i : Nat, i < 32 → (t.1 1 1).toInt ≤ (i : Int) → bt (s2.1 53 5) i = false := fun i hi h => ov_nz N1 hi (by rw [q1]; exact h)
    have w1 : ∀ x y : Int32, (∀ i : Nat, i < 32 → (t.1 1 1).toInt ≤ (i : Int) → bt x i = false) → bcV (x &&& (y ^^^ (-1))) = cntI (fun q => bt x q && !bt y q) (t.1 1 1).toInt.toNat := fun x y hx => by
      rw [bc_v (fun i hi h8 => by rw [bt_and, hx i hi (by omega), Bool.false_and])]
      rw [cnt_x (Q := (t.1 1 1).toInt.toNat) 8 (by omega) (fun q h1 h2 => by rw [bt_and, hx q (by omega) (by omega), Bool.false_and])]
      exact cnt_c _ (fun q hq => by rw [bt_and, bt_not _ (by omega)])
    refine rq_bC (bc_p _ s2) (fun r3 s4 e => ?_)
    obtain ⟨es, e3⟩ := e
    rw [es]
    have k5 : (pI s2 5 6 ((s2.1 5 6) + r3)).1 53 5 = s2.1 53 5 := by rw [pI_o _ _ _ _ _ (by decide)]
    rw [k5]
    refine rq_bC (bc_p _ _) (fun r5 s6 e => ?_)
    obtain ⟨es, e5⟩ := e
    rw [es]
    refine rq_nC (fun s7 f7 => rq_nM (fun t3 g3 => rq_nM (fun t5 g5 => rq_s ?_)))
    have a3 : r3 = t2.1 0 25 := by
      rw [e3, w1 _ _ o2, N4]
      exact cnt_c _ (fun q _ => by cases bt (s.1 53 5) q <;> cases bt (s2.1 53 5) q <;> rfl)
    have a5 : r5 = t2.1 0 26 := by rw [e5, w1 _ _ o1, N5]
    have k7 : s7 = pI (pI s2 5 6 ((s2.1 5 6) + r3)) 5 7 ((s2.1 5 7) + r5) := by rw [f7, pI_1 s2 5 6 _ 5 7, if_neg (by decide)]
    have k5' : t5 = pI (pI t2 11 2 ((t2.1 11 2) + (t2.1 0 25))) 11 3 ((t2.1 11 3) + (t2.1 0 26)) := by rw [g5, g3, pI_1 t2 11 2 _ 11 3, if_neg (by decide), pI_o t2 11 2 _ 0 (by decide)]
    have sc : ∀ k, s7.1 5 k = if k = 7 then (s2.1 5 7) + r5 else if k = 6 then (s2.1 5 6) + r3 else s2.1 5 k := fun k => by
      rw [k7, pI_1]
      by_cases z : k = 7
      · rw [if_pos ⟨rfl, z⟩, if_pos z]
      · rw [if_neg (fun y => z y.2), if_neg z, pI_1]
        by_cases z2 : k = 6
        · rw [if_pos ⟨rfl, z2⟩, if_pos z2]
        · rw [if_neg (fun y => z2 y.2), if_neg z2]
    have tc : ∀ k, t5.1 11 k = if k = 3 then (t2.1 11 3) + (t2.1 0 26) else if k = 2 then (t2.1 11 2) + (t2.1 0 25) else t2.1 11 k := fun k => by
      rw [k5', pI_1]
      by_cases z : k = 3
      · rw [if_pos ⟨rfl, z⟩, if_pos z]
      · rw [if_neg (fun y => z y.2), if_neg z, pI_1]
        by_cases z2 : k = 2
        · rw [if_pos ⟨rfl, z2⟩, if_pos z2]
        · rw [if_neg (fun y => z2 y.2), if_neg z2]
    have so : ∀ c, ¬ c = 5 → s7.1 c = s2.1 c := fun c hc => by rw [k7, pI_o _ _ _ _ _ hc, pI_o _ _ _ _ _ hc]
    have to : ∀ c, ¬ c = 11 → t5.1 c = t2.1 c := fun c hc => by rw [k5', pI_o _ _ _ _ _ hc, pI_o _ _ _ _ _ hc]
    refine ⟨⟨⟨?_, ⟨?_, ?_, ?_⟩, ?_⟩, ?_⟩, Or.inl ⟨rfl, ?_⟩⟩
    · exact ng_k N1 (fun c hc => so c (by omega)) (fun k hk => by rw [to 1 (by decide)]) (by rw [to 0 (by decide)])
    · rw [so 53 (by decide), to 1 (by decide), N2, N3, D1]
      have ea : (t.1 1 4 + 1).toInt = (t.1 1 4).toInt + 1 := i_addx _ _ (by omega)
      by_cases z : t.1 1 4 + 1 < 999
      · rw [if_pos z]
      · rw [if_neg z]
        have := i_nlt z
        exact Int32.toInt_inj.mp (by omega)
    · rw [to 1 (by decide), N3, i_addx _ _ (by omega)]
      omega
    · rw [to 1 (by decide), N3, i_addx _ _ (by omega)]
      omega
    · rw [to 1 (by decide)]
      exact G2
    · rw [k5']
      exact kd_11 (kd_11 (kd_l L))
    · unfold TlRz
      rw [sc 2, sc 3, sc 4, sc 5, sc 6, sc 7, tc 0, tc 1, tc 2, tc 3, to 0 (by decide)]
      refine ⟨U1, U2, U3, U4, ?_, ?_⟩
      · show (s2.1 5 6) + r3 = (t2.1 11 2) + (t2.1 0 25)
        rw [U5, a3]
      · show (s2.1 5 7) + r5 = (t2.1 11 3) + (t2.1 0 26)
        rw [U6, a5]
  · exact ⟨⟨⟨ng_k H (fun c hc => pI_o _ _ _ _ _ (by omega)) (fun k hk => rfl) rfl, dye_kz ⟨D1, D2, D3⟩ (by rw [pI_o _ _ _ _ _ (by decide)]) rfl, gn_up G (by omega)⟩, kd_l (kl_r (w := true))⟩, Or.inr ⟨rfl, tl_mz T⟩⟩
  · have := i_nlt c
    exact absurd (Int32.toInt_inj.mp (by omega)) z
/-! life: any row's act, the test of an IF, where it goes on -/
theorem rq_uC {β γ : Type} {o : Option (γ × Sg)} {oM : Option (β × Sg)} {S : Sg → β → Sg → Prop} (h : RQ o oM (fun _ s b t => S s b t)) : RQ (bd o (fun _ s => some ((), s))) oM (fun _ s b t => S s b t) := rq_bC (P := fun r s' => o = some (r, s')) (fun r s' y => y) (fun r s' y => fun a s2 b t e1 e2 => by
  cases e1
  exact h r s' b t y e2)
theorem act_r {s t : Sg} (H : NowG 0 s t) (T : TlR 0 s t) (D : DyE s t) {K : Int} (hK : 9999 ≤ K ∧ K ≤ 900000000) (G : GnR (t.1 1) K) {k : Nat} (hk : k < 60) (a b : Int32) (ha : a.toInt = (k : Int)) (hb : b.toInt = 110 + 6 * (k : Int)) (R : RwR 24 110 s (t.1 1) k) (V : VdR 110 (t.1 1) k) (n26 : ¬ t.1 1 (110 + 6 * k) = 26) (n27 : ¬ t.1 1 (110 + 6 * k) = 27) : RQ (f_X3_act_25_26_27 a s) (f_X12_does b t) (fun _ s' r' t' => ActP (K + 400) t s' r' t') := by
  have up : ∀ {s' : Sg} {r' : Int32} {t' : Sg}, ActP K t s' r' t' → ActP (K + 400) t s' r' t' := fun h => ⟨⟨⟨h.1.1.1, h.1.1.2.1, gn_up h.1.1.2.2 (by omega)⟩, h.1.2⟩, h.2⟩
  have hp : ∀ (j : Nat) (bj : Int32), bj.toInt = (j : Int) → j < 6 → (b + bj).toNatClampNeg = 110 + 6 * k + j := fun j bj z1 z2 => by
    have y : (b + bj).toInt = b.toInt + bj.toInt := i_addx _ _ (by omega)
    exact cl_h (by omega)
  have h0 : b.toNatClampNeg = 110 + 6 * k := cl_h (by omega)
  have b0 := H.1.1.2.1.1
  have stay : RQ (some ((), s)) (some ((1 : Int32), t)) (fun _ s' r' t' => ActP (K + 400) t s' r' t') := rq_s ⟨⟨⟨H, D, gn_up G (by omega)⟩, kd_l (kl_r (w := true))⟩, Or.inl ⟨rfl, T⟩⟩
  unfold f_X3_act_25_26_27 f_X12_does
  refine rq_cC (fun _ => rq_cM (fun _ => rq_nM (fun x2 f2 => rq_cM (fun _ => rq_nM (fun x4 f4 => rq_cM (fun _ => ?_))))))
  rw [hp 1 1 rfl (by decide)] at f2
  rw [hp 2 2 rfl (by decide)] at f4
  rw [h0, cl_h ha]
  obtain ⟨V1, V2, V3, V4, V5, V6, V7⟩ := V
  rcases R with ⟨w, m, th, nu⟩ | ⟨w, m, th, nu, ho⟩ | ⟨w, m, th⟩ | ⟨w, m, nu⟩ | ⟨w, m, nu⟩ | ⟨w, m⟩ | ⟨w, m, nu⟩ | ⟨w, m⟩ | ⟨w, m⟩ | ⟨w, th, R⟩
  · rw [show s.1 45 k = 120 from w, show t.1 1 (110 + 6 * k) = 19 from m]
    rw [if_neg (show ¬ (120 : Int32) = 116 by decide), if_neg (show ¬ (120 : Int32) = 117 by decide), if_neg (show ¬ (120 : Int32) = 118 by decide), if_neg (show ¬ (120 : Int32) = 119 by decide), if_pos rfl]
    rw [if_neg (show ¬ (19 : Int32) = 4 by decide), if_neg (show ¬ (19 : Int32) = 5 by decide), if_neg (show ¬ (19 : Int32) = 6 by decide), if_neg (show ¬ (19 : Int32) = 7 by decide), if_neg (show ¬ (19 : Int32) = 8 by decide), if_neg (show ¬ (19 : Int32) = 9 by decide), if_neg (show ¬ (19 : Int32) = 10 by decide), if_neg (show ¬ (19 : Int32) = 11 by decide), if_neg (show ¬ (19 : Int32) = 12 by decide), if_neg (show ¬ (19 : Int32) = 13 by decide), if_neg (show ¬ (19 : Int32) = 14 by decide), if_neg (show ¬ (19 : Int32) = 15 by decide), if_neg (show ¬ (19 : Int32) = 16 by decide), if_neg (show ¬ (19 : Int32) = 17 by decide), if_neg (show ¬ (19 : Int32) = 18 by decide), if_pos rfl]
    have hv := V1 (Or.inl m)
    have hg := V5 (Or.inl m)
    rw [show t.1 1 (110 + 6 * k + 1) = x2 from f2.symm] at hv
    rw [show t.1 1 (110 + 6 * k + 2) = x4 from f4.symm] at hg
    rw [show s.1 46 k = x2 from th.trans f2.symm, show s.1 47 k = x4 from nu.trans f4.symm]
    refine rq_uC (rq_w (strew_a H T D hK G (h := x2.toInt.toNat) (by omega) (by omega) hv.2 hg) (fun _ _ _ _ g => up g))
  · rw [show s.1 45 k = 119 from w, show t.1 1 (110 + 6 * k) = 20 from m]
    rw [if_neg (show ¬ (119 : Int32) = 116 by decide), if_neg (show ¬ (119 : Int32) = 117 by decide), if_neg (show ¬ (119 : Int32) = 118 by decide), if_pos rfl]
    rw [if_neg (show ¬ (20 : Int32) = 4 by decide), if_neg (show ¬ (20 : Int32) = 5 by decide), if_neg (show ¬ (20 : Int32) = 6 by decide), if_neg (show ¬ (20 : Int32) = 7 by decide), if_neg (show ¬ (20 : Int32) = 8 by decide), if_neg (show ¬ (20 : Int32) = 9 by decide), if_neg (show ¬ (20 : Int32) = 10 by decide), if_neg (show ¬ (20 : Int32) = 11 by decide), if_neg (show ¬ (20 : Int32) = 12 by decide), if_neg (show ¬ (20 : Int32) = 13 by decide), if_neg (show ¬ (20 : Int32) = 14 by decide), if_neg (show ¬ (20 : Int32) = 15 by decide), if_neg (show ¬ (20 : Int32) = 16 by decide), if_neg (show ¬ (20 : Int32) = 17 by decide), if_neg (show ¬ (20 : Int32) = 18 by decide), if_neg (show ¬ (20 : Int32) = 19 by decide), if_pos rfl]
    have hv := V1 (Or.inr (Or.inl m))
    have hg := V5 (Or.inr m)
    have hj := V2 m
    rw [show t.1 1 (110 + 6 * k + 1) = x2 from f2.symm] at hv
    rw [show t.1 1 (110 + 6 * k + 2) = x4 from f4.symm] at hg
    rw [show t.1 1 (110 + 6 * k + 3) = s.1 46 k from th.symm] at hj
    rw [show s.1 48 k = x2 from ho.trans f2.symm, show s.1 47 k = x4 from nu.trans f4.symm]
    refine rq_uC (rq_w (buy_a H T D hK G (a := s.1 46 k) (b := b) (j := (s.1 46 k).toInt.toNat) (h := x2.toInt.toNat) (by omega) (by omega) (by omega) (by omega) hv.2 hg (by rw [hp 3 3 rfl (by decide)]; exact th.symm)) (fun _ _ _ _ g => up g))
  · rw [show s.1 45 k = 121 from w, show t.1 1 (110 + 6 * k) = 21 from m]
    rw [if_neg (show ¬ (121 : Int32) = 116 by decide), if_neg (show ¬ (121 : Int32) = 117 by decide), if_neg (show ¬ (121 : Int32) = 118 by decide), if_neg (show ¬ (121 : Int32) = 119 by decide), if_neg (show ¬ (121 : Int32) = 120 by decide), if_pos rfl]
    rw [if_neg (show ¬ (21 : Int32) = 4 by decide), if_neg (show ¬ (21 : Int32) = 5 by decide), if_neg (show ¬ (21 : Int32) = 6 by decide), if_neg (show ¬ (21 : Int32) = 7 by decide), if_neg (show ¬ (21 : Int32) = 8 by decide), if_neg (show ¬ (21 : Int32) = 9 by decide), if_neg (show ¬ (21 : Int32) = 10 by decide), if_neg (show ¬ (21 : Int32) = 11 by decide), if_neg (show ¬ (21 : Int32) = 12 by decide), if_neg (show ¬ (21 : Int32) = 13 by decide), if_neg (show ¬ (21 : Int32) = 14 by decide), if_neg (show ¬ (21 : Int32) = 15 by decide), if_neg (show ¬ (21 : Int32) = 16 by decide), if_neg (show ¬ (21 : Int32) = 17 by decide), if_neg (show ¬ (21 : Int32) = 18 by decide), if_neg (show ¬ (21 : Int32) = 19 by decide), if_neg (show ¬ (21 : Int32) = 20 by decide), if_pos rfl]
    have hv := V1 (Or.inr (Or.inr (Or.inl m)))
    rw [show t.1 1 (110 + 6 * k + 1) = x2 from f2.symm] at hv
    rw [show s.1 46 k = x2 from th.trans f2.symm]
    refine rq_uC (rq_w (sweep_a H T D hK G (h := x2.toInt.toNat) (by omega) (by omega)) (fun _ _ _ _ g => up g))
  · rw [show s.1 45 k = 116 from w, show t.1 1 (110 + 6 * k) = 4 from m]
    rw [if_pos rfl]
    rw [if_pos rfl]
    rw [show s.1 47 k = x2 from nu.trans f2.symm]
    refine rq_uC (rq_w (rain_a H T D hK G x2) (fun _ _ _ _ g => up g))
  · rw [show s.1 45 k = 122 from w, show t.1 1 (110 + 6 * k) = 22 from m]
    rw [if_neg (show ¬ (122 : Int32) = 116 by decide), if_neg (show ¬ (122 : Int32) = 117 by decide), if_neg (show ¬ (122 : Int32) = 118 by decide), if_neg (show ¬ (122 : Int32) = 119 by decide), if_neg (show ¬ (122 : Int32) = 120 by decide), if_neg (show ¬ (122 : Int32) = 121 by decide), if_pos rfl]
    rw [if_neg (show ¬ (22 : Int32) = 4 by decide), if_neg (show ¬ (22 : Int32) = 5 by decide), if_neg (show ¬ (22 : Int32) = 6 by decide), if_neg (show ¬ (22 : Int32) = 7 by decide), if_neg (show ¬ (22 : Int32) = 8 by decide), if_neg (show ¬ (22 : Int32) = 9 by decide), if_neg (show ¬ (22 : Int32) = 10 by decide), if_neg (show ¬ (22 : Int32) = 11 by decide), if_neg (show ¬ (22 : Int32) = 12 by decide), if_neg (show ¬ (22 : Int32) = 13 by decide), if_neg (show ¬ (22 : Int32) = 14 by decide), if_neg (show ¬ (22 : Int32) = 15 by decide), if_neg (show ¬ (22 : Int32) = 16 by decide), if_neg (show ¬ (22 : Int32) = 17 by decide), if_neg (show ¬ (22 : Int32) = 18 by decide), if_neg (show ¬ (22 : Int32) = 19 by decide), if_neg (show ¬ (22 : Int32) = 20 by decide), if_neg (show ¬ (22 : Int32) = 21 by decide), if_pos rfl]
    have hg := V7 m
    rw [show t.1 1 (110 + 6 * k + 1) = x2 from f2.symm] at hg
    rw [show s.1 47 k = x2 from nu.trans f2.symm]
    refine rq_uC (rq_w (snow_a H T D G hg) (fun _ _ _ _ g => up g))
  · rw [show s.1 45 k = 123 from w, show t.1 1 (110 + 6 * k) = 23 from m]
    rw [if_neg (show ¬ (123 : Int32) = 116 by decide), if_neg (show ¬ (123 : Int32) = 117 by decide), if_neg (show ¬ (123 : Int32) = 118 by decide), if_neg (show ¬ (123 : Int32) = 119 by decide), if_neg (show ¬ (123 : Int32) = 120 by decide), if_neg (show ¬ (123 : Int32) = 121 by decide), if_neg (show ¬ (123 : Int32) = 122 by decide), if_pos rfl]
    rw [if_neg (show ¬ (23 : Int32) = 4 by decide), if_neg (show ¬ (23 : Int32) = 5 by decide), if_neg (show ¬ (23 : Int32) = 6 by decide), if_neg (show ¬ (23 : Int32) = 7 by decide), if_neg (show ¬ (23 : Int32) = 8 by decide), if_neg (show ¬ (23 : Int32) = 9 by decide), if_neg (show ¬ (23 : Int32) = 10 by decide), if_neg (show ¬ (23 : Int32) = 11 by decide), if_neg (show ¬ (23 : Int32) = 12 by decide), if_neg (show ¬ (23 : Int32) = 13 by decide), if_neg (show ¬ (23 : Int32) = 14 by decide), if_neg (show ¬ (23 : Int32) = 15 by decide), if_neg (show ¬ (23 : Int32) = 16 by decide), if_neg (show ¬ (23 : Int32) = 17 by decide), if_neg (show ¬ (23 : Int32) = 18 by decide), if_neg (show ¬ (23 : Int32) = 19 by decide), if_neg (show ¬ (23 : Int32) = 20 by decide), if_neg (show ¬ (23 : Int32) = 21 by decide), if_neg (show ¬ (23 : Int32) = 22 by decide), if_pos rfl]
    exact rq_uC (night_a H T D hK G)
  · rw [show s.1 45 k = 128 from w, show t.1 1 (110 + 6 * k) = 25 from m]
    rw [if_neg (show ¬ (128 : Int32) = 116 by decide), if_neg (show ¬ (128 : Int32) = 117 by decide), if_neg (show ¬ (128 : Int32) = 118 by decide), if_neg (show ¬ (128 : Int32) = 119 by decide), if_neg (show ¬ (128 : Int32) = 120 by decide), if_neg (show ¬ (128 : Int32) = 121 by decide), if_neg (show ¬ (128 : Int32) = 122 by decide), if_neg (show ¬ (128 : Int32) = 123 by decide)]
    rw [if_neg (show ¬ (25 : Int32) = 4 by decide), if_neg (show ¬ (25 : Int32) = 5 by decide), if_neg (show ¬ (25 : Int32) = 6 by decide), if_neg (show ¬ (25 : Int32) = 7 by decide), if_neg (show ¬ (25 : Int32) = 8 by decide), if_neg (show ¬ (25 : Int32) = 9 by decide), if_neg (show ¬ (25 : Int32) = 10 by decide), if_neg (show ¬ (25 : Int32) = 11 by decide), if_neg (show ¬ (25 : Int32) = 12 by decide), if_neg (show ¬ (25 : Int32) = 13 by decide), if_neg (show ¬ (25 : Int32) = 14 by decide), if_neg (show ¬ (25 : Int32) = 15 by decide), if_neg (show ¬ (25 : Int32) = 16 by decide), if_neg (show ¬ (25 : Int32) = 17 by decide), if_neg (show ¬ (25 : Int32) = 18 by decide), if_neg (show ¬ (25 : Int32) = 19 by decide), if_neg (show ¬ (25 : Int32) = 20 by decide), if_neg (show ¬ (25 : Int32) = 21 by decide), if_neg (show ¬ (25 : Int32) = 22 by decide), if_neg (show ¬ (25 : Int32) = 23 by decide)]
    exact stay
  · exact absurd m n26
  · exact absurd m n27
  · rw [show s.1 45 k = 124 from w]
    rw [if_neg (show ¬ (124 : Int32) = 116 by decide), if_neg (show ¬ (124 : Int32) = 117 by decide), if_neg (show ¬ (124 : Int32) = 118 by decide), if_neg (show ¬ (124 : Int32) = 119 by decide), if_neg (show ¬ (124 : Int32) = 120 by decide), if_neg (show ¬ (124 : Int32) = 121 by decide), if_neg (show ¬ (124 : Int32) = 122 by decide), if_neg (show ¬ (124 : Int32) = 123 by decide)]
    rcases R with ⟨-, m⟩ | ⟨-, m⟩ | ⟨-, -, -, m⟩
    · rw [show t.1 1 (110 + 6 * k) = 2428 from m, if_neg (show ¬ (2428 : Int32) = 4 by decide), if_neg (show ¬ (2428 : Int32) = 5 by decide), if_neg (show ¬ (2428 : Int32) = 6 by decide), if_neg (show ¬ (2428 : Int32) = 7 by decide), if_neg (show ¬ (2428 : Int32) = 8 by decide), if_neg (show ¬ (2428 : Int32) = 9 by decide), if_neg (show ¬ (2428 : Int32) = 10 by decide), if_neg (show ¬ (2428 : Int32) = 11 by decide), if_neg (show ¬ (2428 : Int32) = 12 by decide), if_neg (show ¬ (2428 : Int32) = 13 by decide), if_neg (show ¬ (2428 : Int32) = 14 by decide), if_neg (show ¬ (2428 : Int32) = 15 by decide), if_neg (show ¬ (2428 : Int32) = 16 by decide), if_neg (show ¬ (2428 : Int32) = 17 by decide), if_neg (show ¬ (2428 : Int32) = 18 by decide), if_neg (show ¬ (2428 : Int32) = 19 by decide), if_neg (show ¬ (2428 : Int32) = 20 by decide), if_neg (show ¬ (2428 : Int32) = 21 by decide), if_neg (show ¬ (2428 : Int32) = 22 by decide), if_neg (show ¬ (2428 : Int32) = 23 by decide)]
      exact stay
    · rw [show t.1 1 (110 + 6 * k) = 2429 from m, if_neg (show ¬ (2429 : Int32) = 4 by decide), if_neg (show ¬ (2429 : Int32) = 5 by decide), if_neg (show ¬ (2429 : Int32) = 6 by decide), if_neg (show ¬ (2429 : Int32) = 7 by decide), if_neg (show ¬ (2429 : Int32) = 8 by decide), if_neg (show ¬ (2429 : Int32) = 9 by decide), if_neg (show ¬ (2429 : Int32) = 10 by decide), if_neg (show ¬ (2429 : Int32) = 11 by decide), if_neg (show ¬ (2429 : Int32) = 12 by decide), if_neg (show ¬ (2429 : Int32) = 13 by decide), if_neg (show ¬ (2429 : Int32) = 14 by decide), if_neg (show ¬ (2429 : Int32) = 15 by decide), if_neg (show ¬ (2429 : Int32) = 16 by decide), if_neg (show ¬ (2429 : Int32) = 17 by decide), if_neg (show ¬ (2429 : Int32) = 18 by decide), if_neg (show ¬ (2429 : Int32) = 19 by decide), if_neg (show ¬ (2429 : Int32) = 20 by decide), if_neg (show ¬ (2429 : Int32) = 21 by decide), if_neg (show ¬ (2429 : Int32) = 22 by decide), if_neg (show ¬ (2429 : Int32) = 23 by decide)]
      exact stay
    · rw [show t.1 1 (110 + 6 * k) = 2430 from m, if_neg (show ¬ (2430 : Int32) = 4 by decide), if_neg (show ¬ (2430 : Int32) = 5 by decide), if_neg (show ¬ (2430 : Int32) = 6 by decide), if_neg (show ¬ (2430 : Int32) = 7 by decide), if_neg (show ¬ (2430 : Int32) = 8 by decide), if_neg (show ¬ (2430 : Int32) = 9 by decide), if_neg (show ¬ (2430 : Int32) = 10 by decide), if_neg (show ¬ (2430 : Int32) = 11 by decide), if_neg (show ¬ (2430 : Int32) = 12 by decide), if_neg (show ¬ (2430 : Int32) = 13 by decide), if_neg (show ¬ (2430 : Int32) = 14 by decide), if_neg (show ¬ (2430 : Int32) = 15 by decide), if_neg (show ¬ (2430 : Int32) = 16 by decide), if_neg (show ¬ (2430 : Int32) = 17 by decide), if_neg (show ¬ (2430 : Int32) = 18 by decide), if_neg (show ¬ (2430 : Int32) = 19 by decide), if_neg (show ¬ (2430 : Int32) = 20 by decide), if_neg (show ¬ (2430 : Int32) = 21 by decide), if_neg (show ¬ (2430 : Int32) = 22 by decide), if_neg (show ¬ (2430 : Int32) = 23 by decide)]
      exact stay
theorem act_rz {s t : Sg} (H : NowG 27 s t) (T : TlRz 0 s t) (D : DyEz s t) {K : Int} (hK : 9999 ≤ K ∧ K ≤ 900000000) (G : GnR (t.1 1) K) {k : Nat} (hk : k < 60) (a b : Int32) (ha : a.toInt = (k : Int)) (hb : b.toInt = 110 + 6 * (k : Int)) (R : RwR 24 110 s (t.1 1) k) (V : VdR 110 (t.1 1) k) (n26 : ¬ t.1 1 (110 + 6 * k) = 26) (n27 : ¬ t.1 1 (110 + 6 * k) = 27) : RQ (f_X3_act_25_53_27_5 a s) (f_X12_does b t) (fun _ s' r' t' => ActPz (K + 400) t s' r' t') := by
  have up : ∀ {s' : Sg} {r' : Int32} {t' : Sg}, ActPz K t s' r' t' → ActPz (K + 400) t s' r' t' := fun h => ⟨⟨⟨h.1.1.1, h.1.1.2.1, gn_up h.1.1.2.2 (by omega)⟩, h.1.2⟩, h.2⟩
  have hp : ∀ (j : Nat) (bj : Int32), bj.toInt = (j : Int) → j < 6 → (b + bj).toNatClampNeg = 110 + 6 * k + j := fun j bj z1 z2 => by
    have y : (b + bj).toInt = b.toInt + bj.toInt := i_addx _ _ (by omega)
    exact cl_h (by omega)
  have h0 : b.toNatClampNeg = 110 + 6 * k := cl_h (by omega)
  have b0 := H.1.1.2.1.1
  have stay : RQ (some ((), s)) (some ((1 : Int32), t)) (fun _ s' r' t' => ActPz (K + 400) t s' r' t') := rq_s ⟨⟨⟨H, D, gn_up G (by omega)⟩, kd_l (kl_r (w := true))⟩, Or.inl ⟨rfl, T⟩⟩
  unfold f_X3_act_25_53_27_5 f_X12_does
  refine rq_cC (fun _ => rq_cM (fun _ => rq_nM (fun x2 f2 => rq_cM (fun _ => rq_nM (fun x4 f4 => rq_cM (fun _ => ?_))))))
  rw [hp 1 1 rfl (by decide)] at f2
  rw [hp 2 2 rfl (by decide)] at f4
  rw [h0, cl_h ha]
  obtain ⟨V1, V2, V3, V4, V5, V6, V7⟩ := V
  rcases R with ⟨w, m, th, nu⟩ | ⟨w, m, th, nu, ho⟩ | ⟨w, m, th⟩ | ⟨w, m, nu⟩ | ⟨w, m, nu⟩ | ⟨w, m⟩ | ⟨w, m, nu⟩ | ⟨w, m⟩ | ⟨w, m⟩ | ⟨w, th, R⟩
  · rw [show s.1 45 k = 120 from w, show t.1 1 (110 + 6 * k) = 19 from m]
    rw [if_neg (show ¬ (120 : Int32) = 116 by decide), if_neg (show ¬ (120 : Int32) = 117 by decide), if_neg (show ¬ (120 : Int32) = 118 by decide), if_neg (show ¬ (120 : Int32) = 119 by decide), if_pos rfl]
    rw [if_neg (show ¬ (19 : Int32) = 4 by decide), if_neg (show ¬ (19 : Int32) = 5 by decide), if_neg (show ¬ (19 : Int32) = 6 by decide), if_neg (show ¬ (19 : Int32) = 7 by decide), if_neg (show ¬ (19 : Int32) = 8 by decide), if_neg (show ¬ (19 : Int32) = 9 by decide), if_neg (show ¬ (19 : Int32) = 10 by decide), if_neg (show ¬ (19 : Int32) = 11 by decide), if_neg (show ¬ (19 : Int32) = 12 by decide), if_neg (show ¬ (19 : Int32) = 13 by decide), if_neg (show ¬ (19 : Int32) = 14 by decide), if_neg (show ¬ (19 : Int32) = 15 by decide), if_neg (show ¬ (19 : Int32) = 16 by decide), if_neg (show ¬ (19 : Int32) = 17 by decide), if_neg (show ¬ (19 : Int32) = 18 by decide), if_pos rfl]
    have hv := V1 (Or.inl m)
    have hg := V5 (Or.inl m)
    rw [show t.1 1 (110 + 6 * k + 1) = x2 from f2.symm] at hv
    rw [show t.1 1 (110 + 6 * k + 2) = x4 from f4.symm] at hg
    rw [show s.1 46 k = x2 from th.trans f2.symm, show s.1 47 k = x4 from nu.trans f4.symm]
    refine rq_uC (rq_w (strew_az H T D hK G (h := x2.toInt.toNat) (by omega) (by omega) hv.2 hg) (fun _ _ _ _ g => up g))
  · rw [show s.1 45 k = 119 from w, show t.1 1 (110 + 6 * k) = 20 from m]
    rw [if_neg (show ¬ (119 : Int32) = 116 by decide), if_neg (show ¬ (119 : Int32) = 117 by decide), if_neg (show ¬ (119 : Int32) = 118 by decide), if_pos rfl]
    rw [if_neg (show ¬ (20 : Int32) = 4 by decide), if_neg (show ¬ (20 : Int32) = 5 by decide), if_neg (show ¬ (20 : Int32) = 6 by decide), if_neg (show ¬ (20 : Int32) = 7 by decide), if_neg (show ¬ (20 : Int32) = 8 by decide), if_neg (show ¬ (20 : Int32) = 9 by decide), if_neg (show ¬ (20 : Int32) = 10 by decide), if_neg (show ¬ (20 : Int32) = 11 by decide), if_neg (show ¬ (20 : Int32) = 12 by decide), if_neg (show ¬ (20 : Int32) = 13 by decide), if_neg (show ¬ (20 : Int32) = 14 by decide), if_neg (show ¬ (20 : Int32) = 15 by decide), if_neg (show ¬ (20 : Int32) = 16 by decide), if_neg (show ¬ (20 : Int32) = 17 by decide), if_neg (show ¬ (20 : Int32) = 18 by decide), if_neg (show ¬ (20 : Int32) = 19 by decide), if_pos rfl]
    have hv := V1 (Or.inr (Or.inl m))
    have hg := V5 (Or.inr m)
    have hj := V2 m
    rw [show t.1 1 (110 + 6 * k + 1) = x2 from f2.symm] at hv
    rw [show t.1 1 (110 + 6 * k + 2) = x4 from f4.symm] at hg
    rw [show t.1 1 (110 + 6 * k + 3) = s.1 46 k from th.symm] at hj
    rw [show s.1 48 k = x2 from ho.trans f2.symm, show s.1 47 k = x4 from nu.trans f4.symm]
    refine rq_uC (rq_w (buy_az H T D hK G (a := s.1 46 k) (b := b) (j := (s.1 46 k).toInt.toNat) (h := x2.toInt.toNat) (by omega) (by omega) (by omega) (by omega) hv.2 hg (by rw [hp 3 3 rfl (by decide)]; exact th.symm)) (fun _ _ _ _ g => up g))
  · rw [show s.1 45 k = 121 from w, show t.1 1 (110 + 6 * k) = 21 from m]
    rw [if_neg (show ¬ (121 : Int32) = 116 by decide), if_neg (show ¬ (121 : Int32) = 117 by decide), if_neg (show ¬ (121 : Int32) = 118 by decide), if_neg (show ¬ (121 : Int32) = 119 by decide), if_neg (show ¬ (121 : Int32) = 120 by decide), if_pos rfl]
    rw [if_neg (show ¬ (21 : Int32) = 4 by decide), if_neg (show ¬ (21 : Int32) = 5 by decide), if_neg (show ¬ (21 : Int32) = 6 by decide), if_neg (show ¬ (21 : Int32) = 7 by decide), if_neg (show ¬ (21 : Int32) = 8 by decide), if_neg (show ¬ (21 : Int32) = 9 by decide), if_neg (show ¬ (21 : Int32) = 10 by decide), if_neg (show ¬ (21 : Int32) = 11 by decide), if_neg (show ¬ (21 : Int32) = 12 by decide), if_neg (show ¬ (21 : Int32) = 13 by decide), if_neg (show ¬ (21 : Int32) = 14 by decide), if_neg (show ¬ (21 : Int32) = 15 by decide), if_neg (show ¬ (21 : Int32) = 16 by decide), if_neg (show ¬ (21 : Int32) = 17 by decide), if_neg (show ¬ (21 : Int32) = 18 by decide), if_neg (show ¬ (21 : Int32) = 19 by decide), if_neg (show ¬ (21 : Int32) = 20 by decide), if_pos rfl]
    have hv := V1 (Or.inr (Or.inr (Or.inl m)))
    rw [show t.1 1 (110 + 6 * k + 1) = x2 from f2.symm] at hv
    rw [show s.1 46 k = x2 from th.trans f2.symm]
    refine rq_uC (rq_w (sweep_az H T D hK G (h := x2.toInt.toNat) (by omega) (by omega)) (fun _ _ _ _ g => up g))
  · rw [show s.1 45 k = 116 from w, show t.1 1 (110 + 6 * k) = 4 from m]
    rw [if_pos rfl]
    rw [if_pos rfl]
    rw [show s.1 47 k = x2 from nu.trans f2.symm]
    refine rq_uC (rq_w (rain_az H T D hK G x2) (fun _ _ _ _ g => up g))
  · rw [show s.1 45 k = 122 from w, show t.1 1 (110 + 6 * k) = 22 from m]
    rw [if_neg (show ¬ (122 : Int32) = 116 by decide), if_neg (show ¬ (122 : Int32) = 117 by decide), if_neg (show ¬ (122 : Int32) = 118 by decide), if_neg (show ¬ (122 : Int32) = 119 by decide), if_neg (show ¬ (122 : Int32) = 120 by decide), if_neg (show ¬ (122 : Int32) = 121 by decide), if_pos rfl]
    rw [if_neg (show ¬ (22 : Int32) = 4 by decide), if_neg (show ¬ (22 : Int32) = 5 by decide), if_neg (show ¬ (22 : Int32) = 6 by decide), if_neg (show ¬ (22 : Int32) = 7 by decide), if_neg (show ¬ (22 : Int32) = 8 by decide), if_neg (show ¬ (22 : Int32) = 9 by decide), if_neg (show ¬ (22 : Int32) = 10 by decide), if_neg (show ¬ (22 : Int32) = 11 by decide), if_neg (show ¬ (22 : Int32) = 12 by decide), if_neg (show ¬ (22 : Int32) = 13 by decide), if_neg (show ¬ (22 : Int32) = 14 by decide), if_neg (show ¬ (22 : Int32) = 15 by decide), if_neg (show ¬ (22 : Int32) = 16 by decide), if_neg (show ¬ (22 : Int32) = 17 by decide), if_neg (show ¬ (22 : Int32) = 18 by decide), if_neg (show ¬ (22 : Int32) = 19 by decide), if_neg (show ¬ (22 : Int32) = 20 by decide), if_neg (show ¬ (22 : Int32) = 21 by decide), if_pos rfl]
    have hg := V7 m
    rw [show t.1 1 (110 + 6 * k + 1) = x2 from f2.symm] at hg
    rw [show s.1 47 k = x2 from nu.trans f2.symm]
    refine rq_uC (rq_w (snow_az H T D G hg) (fun _ _ _ _ g => up g))
  · rw [show s.1 45 k = 123 from w, show t.1 1 (110 + 6 * k) = 23 from m]
    rw [if_neg (show ¬ (123 : Int32) = 116 by decide), if_neg (show ¬ (123 : Int32) = 117 by decide), if_neg (show ¬ (123 : Int32) = 118 by decide), if_neg (show ¬ (123 : Int32) = 119 by decide), if_neg (show ¬ (123 : Int32) = 120 by decide), if_neg (show ¬ (123 : Int32) = 121 by decide), if_neg (show ¬ (123 : Int32) = 122 by decide), if_pos rfl]
    rw [if_neg (show ¬ (23 : Int32) = 4 by decide), if_neg (show ¬ (23 : Int32) = 5 by decide), if_neg (show ¬ (23 : Int32) = 6 by decide), if_neg (show ¬ (23 : Int32) = 7 by decide), if_neg (show ¬ (23 : Int32) = 8 by decide), if_neg (show ¬ (23 : Int32) = 9 by decide), if_neg (show ¬ (23 : Int32) = 10 by decide), if_neg (show ¬ (23 : Int32) = 11 by decide), if_neg (show ¬ (23 : Int32) = 12 by decide), if_neg (show ¬ (23 : Int32) = 13 by decide), if_neg (show ¬ (23 : Int32) = 14 by decide), if_neg (show ¬ (23 : Int32) = 15 by decide), if_neg (show ¬ (23 : Int32) = 16 by decide), if_neg (show ¬ (23 : Int32) = 17 by decide), if_neg (show ¬ (23 : Int32) = 18 by decide), if_neg (show ¬ (23 : Int32) = 19 by decide), if_neg (show ¬ (23 : Int32) = 20 by decide), if_neg (show ¬ (23 : Int32) = 21 by decide), if_neg (show ¬ (23 : Int32) = 22 by decide), if_pos rfl]
    exact rq_uC (night_az H T D hK G)
  · rw [show s.1 45 k = 128 from w, show t.1 1 (110 + 6 * k) = 25 from m]
    rw [if_neg (show ¬ (128 : Int32) = 116 by decide), if_neg (show ¬ (128 : Int32) = 117 by decide), if_neg (show ¬ (128 : Int32) = 118 by decide), if_neg (show ¬ (128 : Int32) = 119 by decide), if_neg (show ¬ (128 : Int32) = 120 by decide), if_neg (show ¬ (128 : Int32) = 121 by decide), if_neg (show ¬ (128 : Int32) = 122 by decide), if_neg (show ¬ (128 : Int32) = 123 by decide)]
    rw [if_neg (show ¬ (25 : Int32) = 4 by decide), if_neg (show ¬ (25 : Int32) = 5 by decide), if_neg (show ¬ (25 : Int32) = 6 by decide), if_neg (show ¬ (25 : Int32) = 7 by decide), if_neg (show ¬ (25 : Int32) = 8 by decide), if_neg (show ¬ (25 : Int32) = 9 by decide), if_neg (show ¬ (25 : Int32) = 10 by decide), if_neg (show ¬ (25 : Int32) = 11 by decide), if_neg (show ¬ (25 : Int32) = 12 by decide), if_neg (show ¬ (25 : Int32) = 13 by decide), if_neg (show ¬ (25 : Int32) = 14 by decide), if_neg (show ¬ (25 : Int32) = 15 by decide), if_neg (show ¬ (25 : Int32) = 16 by decide), if_neg (show ¬ (25 : Int32) = 17 by decide), if_neg (show ¬ (25 : Int32) = 18 by decide), if_neg (show ¬ (25 : Int32) = 19 by decide), if_neg (show ¬ (25 : Int32) = 20 by decide), if_neg (show ¬ (25 : Int32) = 21 by decide), if_neg (show ¬ (25 : Int32) = 22 by decide), if_neg (show ¬ (25 : Int32) = 23 by decide)]
    exact stay
  · exact absurd m n26
  · exact absurd m n27
  · rw [show s.1 45 k = 124 from w]
    rw [if_neg (show ¬ (124 : Int32) = 116 by decide), if_neg (show ¬ (124 : Int32) = 117 by decide), if_neg (show ¬ (124 : Int32) = 118 by decide), if_neg (show ¬ (124 : Int32) = 119 by decide), if_neg (show ¬ (124 : Int32) = 120 by decide), if_neg (show ¬ (124 : Int32) = 121 by decide), if_neg (show ¬ (124 : Int32) = 122 by decide), if_neg (show ¬ (124 : Int32) = 123 by decide)]
    rcases R with ⟨-, m⟩ | ⟨-, m⟩ | ⟨-, -, -, m⟩
    · rw [show t.1 1 (110 + 6 * k) = 2428 from m, if_neg (show ¬ (2428 : Int32) = 4 by decide), if_neg (show ¬ (2428 : Int32) = 5 by decide), if_neg (show ¬ (2428 : Int32) = 6 by decide), if_neg (show ¬ (2428 : Int32) = 7 by decide), if_neg (show ¬ (2428 : Int32) = 8 by decide), if_neg (show ¬ (2428 : Int32) = 9 by decide), if_neg (show ¬ (2428 : Int32) = 10 by decide), if_neg (show ¬ (2428 : Int32) = 11 by decide), if_neg (show ¬ (2428 : Int32) = 12 by decide), if_neg (show ¬ (2428 : Int32) = 13 by decide), if_neg (show ¬ (2428 : Int32) = 14 by decide), if_neg (show ¬ (2428 : Int32) = 15 by decide), if_neg (show ¬ (2428 : Int32) = 16 by decide), if_neg (show ¬ (2428 : Int32) = 17 by decide), if_neg (show ¬ (2428 : Int32) = 18 by decide), if_neg (show ¬ (2428 : Int32) = 19 by decide), if_neg (show ¬ (2428 : Int32) = 20 by decide), if_neg (show ¬ (2428 : Int32) = 21 by decide), if_neg (show ¬ (2428 : Int32) = 22 by decide), if_neg (show ¬ (2428 : Int32) = 23 by decide)]
      exact stay
    · rw [show t.1 1 (110 + 6 * k) = 2429 from m, if_neg (show ¬ (2429 : Int32) = 4 by decide), if_neg (show ¬ (2429 : Int32) = 5 by decide), if_neg (show ¬ (2429 : Int32) = 6 by decide), if_neg (show ¬ (2429 : Int32) = 7 by decide), if_neg (show ¬ (2429 : Int32) = 8 by decide), if_neg (show ¬ (2429 : Int32) = 9 by decide), if_neg (show ¬ (2429 : Int32) = 10 by decide), if_neg (show ¬ (2429 : Int32) = 11 by decide), if_neg (show ¬ (2429 : Int32) = 12 by decide), if_neg (show ¬ (2429 : Int32) = 13 by decide), if_neg (show ¬ (2429 : Int32) = 14 by decide), if_neg (show ¬ (2429 : Int32) = 15 by decide), if_neg (show ¬ (2429 : Int32) = 16 by decide), if_neg (show ¬ (2429 : Int32) = 17 by decide), if_neg (show ¬ (2429 : Int32) = 18 by decide), if_neg (show ¬ (2429 : Int32) = 19 by decide), if_neg (show ¬ (2429 : Int32) = 20 by decide), if_neg (show ¬ (2429 : Int32) = 21 by decide), if_neg (show ¬ (2429 : Int32) = 22 by decide), if_neg (show ¬ (2429 : Int32) = 23 by decide)]
      exact stay
    · rw [show t.1 1 (110 + 6 * k) = 2430 from m, if_neg (show ¬ (2430 : Int32) = 4 by decide), if_neg (show ¬ (2430 : Int32) = 5 by decide), if_neg (show ¬ (2430 : Int32) = 6 by decide), if_neg (show ¬ (2430 : Int32) = 7 by decide), if_neg (show ¬ (2430 : Int32) = 8 by decide), if_neg (show ¬ (2430 : Int32) = 9 by decide), if_neg (show ¬ (2430 : Int32) = 10 by decide), if_neg (show ¬ (2430 : Int32) = 11 by decide), if_neg (show ¬ (2430 : Int32) = 12 by decide), if_neg (show ¬ (2430 : Int32) = 13 by decide), if_neg (show ¬ (2430 : Int32) = 14 by decide), if_neg (show ¬ (2430 : Int32) = 15 by decide), if_neg (show ¬ (2430 : Int32) = 16 by decide), if_neg (show ¬ (2430 : Int32) = 17 by decide), if_neg (show ¬ (2430 : Int32) = 18 by decide), if_neg (show ¬ (2430 : Int32) = 19 by decide), if_neg (show ¬ (2430 : Int32) = 20 by decide), if_neg (show ¬ (2430 : Int32) = 21 by decide), if_neg (show ¬ (2430 : Int32) = 22 by decide), if_neg (show ¬ (2430 : Int32) = 23 by decide)]
      exact stay
