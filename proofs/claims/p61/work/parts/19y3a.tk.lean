/-! what life leaves alone on the side of the class: printed by genF.py -/
def cDy (c k : Nat) : Nat := if c = 26 then 200 + k else if c = 53 then 230 + k else if c = 4 then 260 + k else if c = 5 then 270 + k else c
theorem fy_X11_has (a0 : Int32) (a1 : Int32) (s : Sg) : PQ (f_X11_has a0 a1 s) (fun _ s9 => Fr cDy 0 s s9) := by
  have hJ : Fr cDy 0 s s := fr_r
  unfold f_X11_has
  refine pq_if (fun _ => ?_) (fun _ => ?_)
  · exact pq_s hJ
  · exact pq_s hJ

theorem fy_X4_isGone (a1 : Int32) (s : Sg) : PQ (f_X4_isGone a1 s) (fun _ s9 => Fr cDy 0 s s9) := by
  have hJ : Fr cDy 0 s s := fr_r
  unfold f_X4_isGone
  refine pq_if (fun _ => ?_) (fun _ => ?_)
  · exact pq_s hJ
  · exact pq_s hJ

theorem fy_X2_lying (a1 : Int32) (s : Sg) : PQ (f_X2_lying a1 s) (fun _ s9 => Fr cDy 0 s s9) := by
  have hJ : Fr cDy 0 s s := fr_r
  unfold f_X2_lying
  refine pq_c (fun _ => ?_)
  exact pq_s hJ

theorem fy_X2_inSight (a1 : Int32) (s : Sg) : PQ (f_X2_inSight a1 s) (fun _ s9 => Fr cDy 0 s s9) := by
  have hJ : Fr cDy 0 s s := fr_r
  unfold f_X2_inSight
  refine pq_c (fun _ => ?_)
  refine pq_if (fun _ => ?_) (fun _ => ?_)
  · refine pq_b (fy_X2_lying _ _) (fun _ s3 gs3 => ?_)
    have js3 := fr_t hJ gs3 rfl
    exact pq_s js3
  · exact pq_s hJ

theorem fy_X4_isAt (a1 : Int32) (a2 : Int32) (s : Sg) : PQ (f_X4_isAt a1 a2 s) (fun _ s9 => Fr cDy 0 s s9) := by
  have hJ : Fr cDy 0 s s := fr_r
  unfold f_X4_isAt
  refine pq_c (fun _ => ?_)
  refine pq_if (fun _ => ?_) (fun _ => ?_)
  · exact pq_s hJ
  · exact pq_s hJ

theorem fy_X4_allQuarrels  (s : Sg) : PQ (f_X4_allQuarrels  s) (fun _ s9 => Fr cDy 0 s s9) := by
  have hJ : Fr cDy 0 s s := fr_r
  unfold f_X4_allQuarrels
  exact pq_s hJ

theorem fy_X9_contentAt_25_b71 {s0 : Sg} (k_35 : Int32 → Int32 → Int32 → Int32 → Int32 → Sg → Option (Int32 × Sg)) (hk_35 : ∀ (v1 : Int32) (v3 : Int32) (v4 : Int32) (v5 : Int32) (v6 : Int32) (s : Sg), Fr cDy 0 s0 s → PQ (k_35 v1 v3 v4 v5 v6 s) (fun _ s9 => Fr cDy 0 s0 s9)) (v1 : Int32) (v3 : Int32) (v4 : Int32) (v5 : Int32) (v6 : Int32) (t0 : Int32) (s : Sg) (hJ : Fr cDy 0 s0 s) : PQ (f_X9_contentAt_25_b71 k_35 v1 v3 v4 v5 v6 t0 s) (fun _ s9 => Fr cDy 0 s0 s9) := by
  unfold f_X9_contentAt_25_b71
  refine pq_if (fun _ => ?_) (fun _ => ?_)
  · refine pq_n (fun x5 _ => ?_)
    exact hk_35 _ _ _ _ _ _ hJ
  · refine pq_n (fun x6 _ => ?_)
    refine pq_n (fun x7 _ => ?_)
    exact hk_35 _ _ _ _ _ _ hJ
theorem fy_X9_contentAt_25_b35 {s0 : Sg} (n : Nat) : ∀ (v1 : Int32) (v3 : Int32) (v4 : Int32) (v5 : Int32) (v6 : Int32) (s : Sg), Fr cDy 0 s0 s → PQ (f_X9_contentAt_25_b35 n v1 v3 v4 v5 v6 s) (fun _ s9 => Fr cDy 0 s0 s9) := by
  induction n with
  | zero => intro v1 v3 v4 v5 v6 s _ r s9 e; cases e
  | succ n ih =>
    intro v1 v3 v4 v5 v6 s hJ
    unfold f_X9_contentAt_25_b35
    refine pq_if (fun _ => ?_) (fun _ => ?_)
    · exact pq_s hJ
    · refine pq_b (fy_X4_isAt _ _ _) (fun _ s4 gs4 => ?_)
      have js4 := fr_t hJ gs4 rfl
      refine pq_if (fun _ => ?_) (fun _ => ?_)
      · exact ih _ _ _ _ _ _ js4
      · refine pq_if (fun _ => ?_) (fun _ => ?_)
        · exact fy_X9_contentAt_25_b71 _ ih _ _ _ _ _ _ _ js4
        · refine pq_c (fun _ => ?_)
          exact fy_X9_contentAt_25_b71 _ ih _ _ _ _ _ _ _ js4
theorem fy_X9_contentAt_25 (a1 : Int32) (a2 : Int32) (a3 : Int32) (s : Sg) : PQ (f_X9_contentAt_25 a1 a2 a3 s) (fun _ s9 => Fr cDy 0 s s9) := by
  have hJ : Fr cDy 0 s s := fr_r
  unfold f_X9_contentAt_25
  refine pq_b (fy_X4_isGone _ _) (fun _ s2 gs2 => ?_)
  have js2 := fr_t hJ gs2 rfl
  refine pq_if (fun _ => ?_) (fun _ => ?_)
  · exact fy_X9_contentAt_25_b35 BIG _ _ _ _ _ _ js2
  · refine pq_if (fun _ => ?_) (fun _ => ?_)
    · exact pq_s js2
    · refine pq_c (fun _ => ?_)
      exact pq_s js2

theorem fy_X9_atPeace_26_25_b8 {s0 : Sg} (n : Nat) : ∀ (v2 : Int32) (v3 : Int32) (v4 : Int32) (s : Sg), Fr cDy 0 s0 s → PQ (f_X9_atPeace_26_25_b8 n v2 v3 v4 s) (fun _ s9 => Fr cDy 0 s0 s9) := by
  induction n with
  | zero => intro v2 v3 v4 s _ r s9 e; cases e
  | succ n ih =>
    intro v2 v3 v4 s hJ
    unfold f_X9_atPeace_26_25_b8
    refine pq_if (fun _ => ?_) (fun _ => ?_)
    · exact pq_s hJ
    · refine pq_c (fun _ => ?_)
      refine pq_b (fy_X2_inSight _ _) (fun _ s5 gs5 => ?_)
      have js5 := fr_t hJ gs5 rfl
      refine pq_b (fy_X9_contentAt_25 _ _ _ _) (fun _ s7 gs7 => ?_)
      have js7 := fr_t js5 gs7 rfl
      refine pq_n (fun x8 _ => ?_)
      exact ih _ _ _ _ js7
theorem fy_X9_atPeace_26_25 (a2 : Int32) (s : Sg) : PQ (f_X9_atPeace_26_25 a2 s) (fun _ s9 => Fr cDy 0 s s9) := by
  have hJ : Fr cDy 0 s s := fr_r
  unfold f_X9_atPeace_26_25
  refine pq_b (fy_X4_allQuarrels  _) (fun _ s2 gs2 => ?_)
  have js2 := fr_t hJ gs2 rfl
  exact fy_X9_atPeace_26_25_b8 BIG _ _ _ _ js2

theorem fy_X9_calmAt_25_b34 {s0 : Sg} (n : Nat) : ∀ (v1 : Int32) (v3 : Int32) (v4 : Int32) (v5 : Int32) (s : Sg), Fr cDy 0 s0 s → PQ (f_X9_calmAt_25_b34 n v1 v3 v4 v5 s) (fun _ s9 => Fr cDy 0 s0 s9) := by
  induction n with
  | zero => intro v1 v3 v4 v5 s _ r s9 e; cases e
  | succ n ih =>
    intro v1 v3 v4 v5 s hJ
    unfold f_X9_calmAt_25_b34
    refine pq_if (fun _ => ?_) (fun _ => ?_)
    · exact pq_s hJ
    · refine pq_if (fun _ => ?_) (fun _ => ?_)
      · exact pq_s hJ
      · refine pq_b (fy_X4_isAt _ _ _) (fun _ s4 gs4 => ?_)
        have js4 := fr_t hJ gs4 rfl
        refine pq_if (fun _ => ?_) (fun _ => ?_)
        · exact ih _ _ _ _ _ js4
        · refine pq_n (fun x5 _ => ?_)
          refine pq_c (fun _ => ?_)
          refine pq_n (fun x7 _ => ?_)
          exact ih _ _ _ _ _ js4
theorem fy_X9_calmAt_25 (a1 : Int32) (a2 : Int32) (s : Sg) : PQ (f_X9_calmAt_25 a1 a2 s) (fun _ s9 => Fr cDy 0 s s9) := by
  have hJ : Fr cDy 0 s s := fr_r
  unfold f_X9_calmAt_25
  refine pq_b (fy_X4_isGone _ _) (fun _ s2 gs2 => ?_)
  have js2 := fr_t hJ gs2 rfl
  refine pq_if (fun _ => ?_) (fun _ => ?_)
  · exact fy_X9_calmAt_25_b34 BIG _ _ _ _ _ js2
  · refine pq_if (fun _ => ?_) (fun _ => ?_)
    · exact pq_s js2
    · refine pq_c (fun _ => ?_)
      exact pq_s js2

theorem fy_X9_inTruce_26_25_b7 {s0 : Sg} (n : Nat) : ∀ (v2 : Int32) (v3 : Int32) (s : Sg), Fr cDy 0 s0 s → PQ (f_X9_inTruce_26_25_b7 n v2 v3 s) (fun _ s9 => Fr cDy 0 s0 s9) := by
  induction n with
  | zero => intro v2 v3 s _ r s9 e; cases e
  | succ n ih =>
    intro v2 v3 s hJ
    unfold f_X9_inTruce_26_25_b7
    refine pq_if (fun _ => ?_) (fun _ => ?_)
    · exact pq_s hJ
    · refine pq_c (fun _ => ?_)
      refine pq_b (fy_X2_inSight _ _) (fun _ s5 gs5 => ?_)
      have js5 := fr_t hJ gs5 rfl
      refine pq_b (fy_X9_calmAt_25 _ _ _) (fun _ s7 gs7 => ?_)
      have js7 := fr_t js5 gs7 rfl
      refine pq_n (fun x8 _ => ?_)
      exact ih _ _ _ js7
theorem fy_X9_inTruce_26_25  (s : Sg) : PQ (f_X9_inTruce_26_25  s) (fun _ s9 => Fr cDy 0 s s9) := by
  have hJ : Fr cDy 0 s s := fr_r
  unfold f_X9_inTruce_26_25
  refine pq_b (fy_X4_allQuarrels  _) (fun _ s2 gs2 => ?_)
  have js2 := fr_t hJ gs2 rfl
  exact fy_X9_inTruce_26_25_b7 BIG _ _ _ js2

theorem fy_X2_hasRoom (a1 : Int32) (a2 : Int32) (s : Sg) : PQ (f_X2_hasRoom a1 a2 s) (fun _ s9 => Fr cDy 0 s s9) := by
  have hJ : Fr cDy 0 s s := fr_r
  unfold f_X2_hasRoom
  refine pq_b (fy_X2_lying _ _) (fun _ s2 gs2 => ?_)
  have js2 := fr_t hJ gs2 rfl
  refine pq_if (fun _ => ?_) (fun _ => ?_)
  · exact pq_s js2
  · exact pq_s js2

theorem fy_X2_addSalt (a1 : Int32) (a2 : Int32) (s : Sg) : PQ (f_X2_addSalt a1 a2 s) (fun _ s9 => Fr cDy 822752278660603021077484591278675252491367932816791031185932288 s s9) := by
  have hJ : Fr cDy 822752278660603021077484591278675252491367932816791031185932288 s s := fr_r
  unfold f_X2_addSalt
  refine pq_c (fun _ => ?_)
  refine pq_n (fun s2 es2 => ?_)
  have js2 : Fr cDy 822752278660603021077484591278675252491367932816791031185932288 s s2 := by rw [es2]; exact (fr_i hJ 40 rfl rfl)
  exact pq_s (fr_i js2 209 rfl rfl)

theorem fy_X2_addBought_25 (a2 : Int32) (a3 : Int32) (a4 : Int32) (s : Sg) : PQ (f_X2_addBought_25 a2 a3 a4 s) (fun _ s9 => Fr cDy 1234128417990904531616226886918012878737051899225205788232384512 s s9) := by
  have hJ : Fr cDy 1234128417990904531616226886918012878737051899225205788232384512 s s := fr_r
  unfold f_X2_addBought_25
  refine pq_c (fun _ => ?_)
  refine pq_n (fun x2 _ => ?_)
  refine pq_n (fun s3 es3 => ?_)
  have js3 : Fr cDy 1234128417990904531616226886918012878737051899225205788232384512 s s3 := by rw [es3]; exact (fr_i hJ 44 rfl rfl)
  refine pq_n (fun s4 es4 => ?_)
  have js4 : Fr cDy 1234128417990904531616226886918012878737051899225205788232384512 s s4 := by rw [es4]; exact (fr_i js3 208 rfl rfl)
  refine pq_b (fy_X2_addSalt _ _ _) (fun _ s6 gs6 => ?_)
  have js6 := fr_t js4 gs6 rfl
  refine pq_c (fun _ => ?_)
  refine pq_n (fun s8 es8 => ?_)
  have js8 : Fr cDy 1234128417990904531616226886918012878737051899225205788232384512 s s8 := by rw [es8]; exact (fr_i js6 41 rfl rfl)
  exact pq_s (fr_i js8 209 rfl rfl)

theorem fy_X2_clearStep (a1 : Int32) (s : Sg) : PQ (f_X2_clearStep a1 s) (fun _ s9 => Fr cDy 3291009114642412084309938365114701009965471731267163025232101376 s s9) := by
  have hJ : Fr cDy 3291009114642412084309938365114701009965471731267163025232101376 s s := fr_r
  unfold f_X2_clearStep
  refine pq_b (fy_X2_lying _ _) (fun _ s2 gs2 => ?_)
  have js2 := fr_t hJ gs2 rfl
  refine pq_c (fun _ => ?_)
  refine pq_n (fun s4 es4 => ?_)
  have js4 : Fr cDy 3291009114642412084309938365114701009965471731267163025232101376 s s4 := by rw [es4]; exact (fr_i (fr_i js2 40 rfl rfl) 41 rfl rfl)
  refine pq_n (fun s5 es5 => ?_)
  have js5 : Fr cDy 3291009114642412084309938365114701009965471731267163025232101376 s s5 := by rw [es5]; exact (fr_i js4 211 rfl rfl)
  exact pq_s js5

theorem fy_X2_carry (a1 : Int32) (a2 : Int32) (a3 : Int32) (s : Sg) : PQ (f_X2_carry a1 a2 a3 s) (fun _ s9 => Fr cDy 3298534883328 s s9) := by
  have hJ : Fr cDy 3298534883328 s s := fr_r
  unfold f_X2_carry
  refine pq_c (fun _ => ?_)
  refine pq_n (fun x2 _ => ?_)
  refine pq_n (fun x3 _ => ?_)
  refine pq_n (fun s4 es4 => ?_)
  have js4 : Fr cDy 3298534883328 s s4 := by rw [es4]; exact (fr_i hJ 40 rfl rfl)
  refine pq_n (fun s5 es5 => ?_)
  have js5 : Fr cDy 3298534883328 s s5 := by rw [es5]; exact (fr_i js4 41 rfl rfl)
  refine pq_c (fun _ => ?_)
  refine pq_n (fun s7 es7 => ?_)
  have js7 : Fr cDy 3298534883328 s s7 := by rw [es7]; exact (fr_i js5 40 rfl rfl)
  refine pq_n (fun s8 es8 => ?_)
  have js8 : Fr cDy 3298534883328 s s8 := by rw [es8]; exact (fr_i js7 41 rfl rfl)
  exact pq_s js8

theorem fy_X2_letRain_25_b4 {s0 : Sg} (n : Nat) : ∀ (v2 : Int32) (v3 : Int32) (s : Sg), Fr cDy 1851192626986356797424340330377019318105577848837780644802068480 s0 s → PQ (f_X2_letRain_25_b4 n v2 v3 s) (fun _ s9 => Fr cDy 1851192626986356797424340330377019318105577848837780644802068480 s0 s9) := by
  induction n with
  | zero => intro v2 v3 s _ r s9 e; cases e
  | succ n ih =>
    intro v2 v3 s hJ
    unfold f_X2_letRain_25_b4
    refine pq_if (fun _ => ?_) (fun _ => ?_)
    · exact pq_s (fr_i (fr_i hJ 210 rfl rfl) 207 rfl rfl)
    · refine pq_c (fun _ => ?_)
      refine pq_n (fun x2 _ => ?_)
      refine pq_n (fun x3 _ => ?_)
      refine pq_n (fun s4 es4 => ?_)
      have js4 : Fr cDy 1851192626986356797424340330377019318105577848837780644802068480 s0 s4 := by rw [es4]; exact (fr_i (fr_i hJ 41 rfl rfl) 40 rfl rfl)
      exact ih _ _ _ js4
theorem fy_X2_letRain_25  (s : Sg) : PQ (f_X2_letRain_25  s) (fun _ s9 => Fr cDy 1851192626986356797424340330377019318105577848837780644802068480 s s9) := by
  have hJ : Fr cDy 1851192626986356797424340330377019318105577848837780644802068480 s s := fr_r
  unfold f_X2_letRain_25
  exact fy_X2_letRain_25_b4 BIG _ _ _ hJ

theorem fy_X2_letSnow_25_b2 {s0 : Sg} (n : Nat) : ∀ (v2 : Int32) (v3 : Int32) (s : Sg), Fr cDy 4398046511104 s0 s → PQ (f_X2_letSnow_25_b2 n v2 v3 s) (fun _ s9 => Fr cDy 4398046511104 s0 s9) := by
  induction n with
  | zero => intro v2 v3 s _ r s9 e; cases e
  | succ n ih =>
    intro v2 v3 s hJ
    unfold f_X2_letSnow_25_b2
    refine pq_if (fun _ => ?_) (fun _ => ?_)
    · exact pq_s hJ
    · refine pq_b (fy_X4_isGone _ _) (fun _ s2 gs2 => ?_)
      have js2 := fr_t hJ gs2 rfl
      refine pq_if (fun _ => ?_) (fun _ => ?_)
      · refine pq_c (fun _ => ?_)
        refine pq_n (fun s4 es4 => ?_)
        have js4 : Fr cDy 4398046511104 s0 s4 := by rw [es4]; exact (fr_i js2 42 rfl rfl)
        exact ih _ _ _ js4
      · exact ih _ _ _ js2
theorem fy_X2_letSnow_25 (a2 : Int32) (s : Sg) : PQ (f_X2_letSnow_25 a2 s) (fun _ s9 => Fr cDy 4398046511104 s s9) := by
  have hJ : Fr cDy 4398046511104 s s := fr_r
  unfold f_X2_letSnow_25
  exact fy_X2_letSnow_25_b2 BIG _ _ _ hJ

theorem fy_X2_sendCats_25_b2 {s0 : Sg} (n : Nat) : ∀ (v2 : Int32) (s : Sg), Fr cDy 3298534883328 s0 s → PQ (f_X2_sendCats_25_b2 n v2 s) (fun _ s9 => Fr cDy 3298534883328 s0 s9) := by
  induction n with
  | zero => intro v2 s _ r s9 e; cases e
  | succ n ih =>
    intro v2 s hJ
    unfold f_X2_sendCats_25_b2
    refine pq_if (fun _ => ?_) (fun _ => ?_)
    · exact pq_s hJ
    · refine pq_c (fun _ => ?_)
      refine pq_c (fun _ => ?_)
      refine pq_if (fun _ => ?_) (fun _ => ?_)
      · refine pq_b (fy_X2_carry _ _ _ _) (fun _ s4 gs4 => ?_)
        have js4 := fr_t hJ gs4 rfl
        exact ih _ _ js4
      · exact ih _ _ hJ
theorem fy_X2_sendCats_25  (s : Sg) : PQ (f_X2_sendCats_25  s) (fun _ s9 => Fr cDy 3298534883328 s s9) := by
  have hJ : Fr cDy 3298534883328 s s := fr_r
  unfold f_X2_sendCats_25
  exact fy_X2_sendCats_25_b2 BIG _ _ hJ

theorem fy_X2_meltSnow_25_b2 {s0 : Sg} (n : Nat) : ∀ (v2 : Int32) (s : Sg), Fr cDy 6582018229284824168619876730229402019930943462534324950952574976 s0 s → PQ (f_X2_meltSnow_25_b2 n v2 s) (fun _ s9 => Fr cDy 6582018229284824168619876730229402019930943462534324950952574976 s0 s9) := by
  induction n with
  | zero => intro v2 s _ r s9 e; cases e
  | succ n ih =>
    intro v2 s hJ
    unfold f_X2_meltSnow_25_b2
    refine pq_if (fun _ => ?_) (fun _ => ?_)
    · exact pq_s hJ
    · refine pq_c (fun _ => ?_)
      refine pq_n (fun x2 _ => ?_)
      refine pq_n (fun s3 es3 => ?_)
      have js3 : Fr cDy 6582018229284824168619876730229402019930943462534324950952574976 s0 s3 := by rw [es3]; exact (fr_i hJ 40 rfl rfl)
      refine pq_n (fun s4 es4 => ?_)
      have js4 : Fr cDy 6582018229284824168619876730229402019930943462534324950952574976 s0 s4 := by rw [es4]; exact (fr_i js3 42 rfl rfl)
      refine pq_n (fun s5 es5 => ?_)
      have js5 : Fr cDy 6582018229284824168619876730229402019930943462534324950952574976 s0 s5 := by rw [es5]; exact (fr_i js4 212 rfl rfl)
      exact ih _ _ js5
theorem fy_X2_meltSnow_25  (s : Sg) : PQ (f_X2_meltSnow_25  s) (fun _ s9 => Fr cDy 6582018229284824168619876730229402019930943462534324950952574976 s s9) := by
  have hJ : Fr cDy 6582018229284824168619876730229402019930943462534324950952574976 s s := fr_r
  unfold f_X2_meltSnow_25
  exact fy_X2_meltSnow_25_b2 BIG _ _ hJ

theorem fy_X2_countWar_25_b2 {s0 : Sg} (n : Nat) : ∀ (v2 : Int32) (s : Sg), Fr cDy 8796093022208 s0 s → PQ (f_X2_countWar_25_b2 n v2 s) (fun _ s9 => Fr cDy 8796093022208 s0 s9) := by
  induction n with
  | zero => intro v2 s _ r s9 e; cases e
  | succ n ih =>
    intro v2 s hJ
    unfold f_X2_countWar_25_b2
    refine pq_if (fun _ => ?_) (fun _ => ?_)
    · exact pq_s hJ
    · refine pq_b (fy_X11_has _ _ _) (fun _ s2 gs2 => ?_)
      have js2 := fr_t hJ gs2 rfl
      refine pq_if (fun _ => ?_) (fun _ => ?_)
      · refine pq_c (fun _ => ?_)
        refine pq_n (fun s4 es4 => ?_)
        have js4 : Fr cDy 8796093022208 s0 s4 := by rw [es4]; exact (fr_i js2 43 rfl rfl)
        exact ih _ _ js4
      · exact ih _ _ js2
theorem fy_X2_countWar_25  (s : Sg) : PQ (f_X2_countWar_25  s) (fun _ s9 => Fr cDy 8796093022208 s s9) := by
  have hJ : Fr cDy 8796093022208 s s := fr_r
  unfold f_X2_countWar_25
  exact fy_X2_countWar_25_b2 BIG _ _ hJ

theorem fy_X2_passNight_25_b35 {s0 : Sg} (t0 : Int32) (s : Sg) (hJ : Fr cDy 6941972351198837990341276238913822442895916933141681541176360960 s0 s) : PQ (f_X2_passNight_25_b35 t0 s) (fun _ s9 => Fr cDy 6941972351198837990341276238913822442895916933141681541176360960 s0 s9) := by
  unfold f_X2_passNight_25_b35
  refine pq_b (fy_X2_countWar_25  _) (fun _ s8 gs8 => ?_)
  have js8 := fr_t (fr_i hJ 205 rfl rfl) gs8 rfl
  refine pq_n (fun s9 es9 => ?_)
  have js9 : Fr cDy 6941972351198837990341276238913822442895916933141681541176360960 s0 s9 := by rw [es9]; exact (fr_i js8 206 rfl rfl)
  exact pq_s (fr_i js9 207 rfl rfl)
theorem fy_X2_passNight_25  (s : Sg) : PQ (f_X2_passNight_25  s) (fun _ s9 => Fr cDy 6941972351198837990341276238913822442895916933141681541176360960 s s9) := by
  have hJ : Fr cDy 6941972351198837990341276238913822442895916933141681541176360960 s s := fr_r
  unfold f_X2_passNight_25
  refine pq_b (fy_X2_sendCats_25  _) (fun _ s2 gs2 => ?_)
  have js2 := fr_t hJ gs2 rfl
  refine pq_b (fy_X2_meltSnow_25  _) (fun _ s4 gs4 => ?_)
  have js4 := fr_t js2 gs4 rfl
  refine pq_b (fy_X9_atPeace_26_25 _ _) (fun _ s6 gs6 => ?_)
  have js6 := fr_t js4 gs6 rfl
  refine pq_if (fun _ => ?_) (fun _ => ?_)
  · exact fy_X2_passNight_25_b35 _ _ js6
  · exact fy_X2_passNight_25_b35 _ _ js6

theorem fy_X11_copyRow_67_40  (s : Sg) : PQ (f_X11_copyRow_67_40  s) (fun _ s9 => Fr cDy 147573952589676412928 s s9) := by
  have hJ : Fr cDy 147573952589676412928 s s := fr_r
  unfold f_X11_copyRow_67_40
  refine pq_c (fun _ => ?_)
  exact pq_s (fr_a hJ 67 (fun _ => rfl) rfl)

theorem fy_X11_copyRow_68_41  (s : Sg) : PQ (f_X11_copyRow_68_41  s) (fun _ s9 => Fr cDy 295147905179352825856 s s9) := by
  have hJ : Fr cDy 295147905179352825856 s s := fr_r
  unfold f_X11_copyRow_68_41
  refine pq_c (fun _ => ?_)
  exact pq_s (fr_a hJ 68 (fun _ => rfl) rfl)

theorem fy_X11_copyRow_69_42  (s : Sg) : PQ (f_X11_copyRow_69_42  s) (fun _ s9 => Fr cDy 590295810358705651712 s s9) := by
  have hJ : Fr cDy 590295810358705651712 s s := fr_r
  unfold f_X11_copyRow_69_42
  refine pq_c (fun _ => ?_)
  exact pq_s (fr_a hJ 69 (fun _ => rfl) rfl)

theorem fy_X11_copyRow_70_43  (s : Sg) : PQ (f_X11_copyRow_70_43  s) (fun _ s9 => Fr cDy 1180591620717411303424 s s9) := by
  have hJ : Fr cDy 1180591620717411303424 s s := fr_r
  unfold f_X11_copyRow_70_43
  refine pq_c (fun _ => ?_)
  exact pq_s (fr_a hJ 70 (fun _ => rfl) rfl)

theorem fy_X11_copyRow_71_44  (s : Sg) : PQ (f_X11_copyRow_71_44  s) (fun _ s9 => Fr cDy 2361183241434822606848 s s9) := by
  have hJ : Fr cDy 2361183241434822606848 s s := fr_r
  unfold f_X11_copyRow_71_44
  refine pq_c (fun _ => ?_)
  exact pq_s (fr_a hJ 71 (fun _ => rfl) rfl)

theorem fy_X2_copyFrom_26_53  (s : Sg) : PQ (f_X2_copyFrom_26_53  s) (fun _ s9 => Fr cDy 14079562547452750126366901959045131923000262303227593147324079696519364608 s s9) := by
  have hJ : Fr cDy 14079562547452750126366901959045131923000262303227593147324079696519364608 s s := fr_r
  unfold f_X2_copyFrom_26_53
  refine pq_b (fy_X11_copyRow_67_40  _) (fun _ s2 gs2 => ?_)
  have js2 := fr_t hJ gs2 rfl
  refine pq_b (fy_X11_copyRow_68_41  _) (fun _ s4 gs4 => ?_)
  have js4 := fr_t js2 gs4 rfl
  refine pq_b (fy_X11_copyRow_69_42  _) (fun _ s6 gs6 => ?_)
  have js6 := fr_t js4 gs6 rfl
  refine pq_b (fy_X11_copyRow_70_43  _) (fun _ s8 gs8 => ?_)
  have js8 := fr_t js6 gs8 rfl
  refine pq_b (fy_X11_copyRow_71_44  _) (fun _ s10 gs10 => ?_)
  have js10 := fr_t js8 gs10 rfl
  refine pq_n (fun s11 es11 => ?_)
  have js11 : Fr cDy 14079562547452750126366901959045131923000262303227593147324079696519364608 s s11 := by rw [es11]; exact (fr_i (fr_i js10 235 rfl rfl) 236 rfl rfl)
  refine pq_c (fun _ => ?_)
  refine pq_n (fun s13 es13 => ?_)
  have js13 : Fr cDy 14079562547452750126366901959045131923000262303227593147324079696519364608 s s13 := by rw [es13]; exact (fr_i (fr_i js11 237 rfl rfl) 238 rfl rfl)
  refine pq_n (fun s14 es14 => ?_)
  have js14 : Fr cDy 14079562547452750126366901959045131923000262303227593147324079696519364608 s s14 := by rw [es14]; exact (fr_i (fr_i js13 239 rfl rfl) 240 rfl rfl)
  refine pq_n (fun s15 es15 => ?_)
  have js15 : Fr cDy 14079562547452750126366901959045131923000262303227593147324079696519364608 s s15 := by rw [es15]; exact (fr_i (fr_i js14 241 rfl rfl) 242 rfl rfl)
  exact pq_s js15

theorem fy_X2_carry_53 (a1 : Int32) (a2 : Int32) (a3 : Int32) (s : Sg) : PQ (f_X2_carry_53 a1 a2 a3 s) (fun _ s9 => Fr cDy 442721857769029238784 s s9) := by
  have hJ : Fr cDy 442721857769029238784 s s := fr_r
  unfold f_X2_carry_53
  refine pq_c (fun _ => ?_)
  refine pq_n (fun x2 _ => ?_)
  refine pq_n (fun x3 _ => ?_)
  refine pq_n (fun s4 es4 => ?_)
  have js4 : Fr cDy 442721857769029238784 s s4 := by rw [es4]; exact (fr_i hJ 67 rfl rfl)
  refine pq_n (fun s5 es5 => ?_)
  have js5 : Fr cDy 442721857769029238784 s s5 := by rw [es5]; exact (fr_i js4 68 rfl rfl)
  refine pq_c (fun _ => ?_)
  refine pq_n (fun s7 es7 => ?_)
  have js7 : Fr cDy 442721857769029238784 s s7 := by rw [es7]; exact (fr_i js5 67 rfl rfl)
  refine pq_n (fun s8 es8 => ?_)
  have js8 : Fr cDy 442721857769029238784 s s8 := by rw [es8]; exact (fr_i js7 68 rfl rfl)
  exact pq_s js8

theorem fy_X2_sendCats_25_53_b2 {s0 : Sg} (n : Nat) : ∀ (v2 : Int32) (s : Sg), Fr cDy 442721857769029238784 s0 s → PQ (f_X2_sendCats_25_53_b2 n v2 s) (fun _ s9 => Fr cDy 442721857769029238784 s0 s9) := by
  induction n with
  | zero => intro v2 s _ r s9 e; cases e
  | succ n ih =>
    intro v2 s hJ
    unfold f_X2_sendCats_25_53_b2
    refine pq_if (fun _ => ?_) (fun _ => ?_)
    · exact pq_s hJ
    · refine pq_c (fun _ => ?_)
      refine pq_c (fun _ => ?_)
      refine pq_if (fun _ => ?_) (fun _ => ?_)
      · refine pq_b (fy_X2_carry_53 _ _ _ _) (fun _ s4 gs4 => ?_)
        have js4 := fr_t hJ gs4 rfl
        exact ih _ _ js4
      · exact ih _ _ hJ
theorem fy_X2_sendCats_25_53  (s : Sg) : PQ (f_X2_sendCats_25_53  s) (fun _ s9 => Fr cDy 442721857769029238784 s s9) := by
  have hJ : Fr cDy 442721857769029238784 s s := fr_r
  unfold f_X2_sendCats_25_53
  exact fy_X2_sendCats_25_53_b2 BIG _ _ hJ

theorem fy_X2_meltSnow_25_53_b2 {s0 : Sg} (n : Nat) : ∀ (v2 : Int32) (s : Sg), Fr cDy 7067388259113537318333190002971674063309935587502476570356187753552543744 s0 s → PQ (f_X2_meltSnow_25_53_b2 n v2 s) (fun _ s9 => Fr cDy 7067388259113537318333190002971674063309935587502476570356187753552543744 s0 s9) := by
  induction n with
  | zero => intro v2 s _ r s9 e; cases e
  | succ n ih =>
    intro v2 s hJ
    unfold f_X2_meltSnow_25_53_b2
    refine pq_if (fun _ => ?_) (fun _ => ?_)
    · exact pq_s hJ
    · refine pq_c (fun _ => ?_)
      refine pq_n (fun x2 _ => ?_)
      refine pq_n (fun s3 es3 => ?_)
      have js3 : Fr cDy 7067388259113537318333190002971674063309935587502476570356187753552543744 s0 s3 := by rw [es3]; exact (fr_i hJ 67 rfl rfl)
      refine pq_n (fun s4 es4 => ?_)
      have js4 : Fr cDy 7067388259113537318333190002971674063309935587502476570356187753552543744 s0 s4 := by rw [es4]; exact (fr_i js3 69 rfl rfl)
      refine pq_n (fun s5 es5 => ?_)
      have js5 : Fr cDy 7067388259113537318333190002971674063309935587502476570356187753552543744 s0 s5 := by rw [es5]; exact (fr_i js4 242 rfl rfl)
      exact ih _ _ js5
theorem fy_X2_meltSnow_25_53  (s : Sg) : PQ (f_X2_meltSnow_25_53  s) (fun _ s9 => Fr cDy 7067388259113537318333190002971674063309935587502476570356187753552543744 s s9) := by
  have hJ : Fr cDy 7067388259113537318333190002971674063309935587502476570356187753552543744 s s := fr_r
  unfold f_X2_meltSnow_25_53
  exact fy_X2_meltSnow_25_53_b2 BIG _ _ hJ

theorem fy_X2_lying_53 (a1 : Int32) (s : Sg) : PQ (f_X2_lying_53 a1 s) (fun _ s9 => Fr cDy 0 s s9) := by
  have hJ : Fr cDy 0 s s := fr_r
  unfold f_X2_lying_53
  refine pq_c (fun _ => ?_)
  exact pq_s hJ

theorem fy_X2_inSight_53 (a1 : Int32) (s : Sg) : PQ (f_X2_inSight_53 a1 s) (fun _ s9 => Fr cDy 0 s s9) := by
  have hJ : Fr cDy 0 s s := fr_r
  unfold f_X2_inSight_53
  refine pq_c (fun _ => ?_)
  refine pq_if (fun _ => ?_) (fun _ => ?_)
  · refine pq_b (fy_X2_lying_53 _ _) (fun _ s3 gs3 => ?_)
    have js3 := fr_t hJ gs3 rfl
    exact pq_s js3
  · exact pq_s hJ

theorem fy_X9_atPeace_53_25_b8 {s0 : Sg} (n : Nat) : ∀ (v2 : Int32) (v3 : Int32) (v4 : Int32) (s : Sg), Fr cDy 0 s0 s → PQ (f_X9_atPeace_53_25_b8 n v2 v3 v4 s) (fun _ s9 => Fr cDy 0 s0 s9) := by
  induction n with
  | zero => intro v2 v3 v4 s _ r s9 e; cases e
  | succ n ih =>
    intro v2 v3 v4 s hJ
    unfold f_X9_atPeace_53_25_b8
    refine pq_if (fun _ => ?_) (fun _ => ?_)
    · exact pq_s hJ
    · refine pq_c (fun _ => ?_)
      refine pq_b (fy_X2_inSight_53 _ _) (fun _ s5 gs5 => ?_)
      have js5 := fr_t hJ gs5 rfl
      refine pq_b (fy_X9_contentAt_25 _ _ _ _) (fun _ s7 gs7 => ?_)
      have js7 := fr_t js5 gs7 rfl
      refine pq_n (fun x8 _ => ?_)
      exact ih _ _ _ _ js7
theorem fy_X9_atPeace_53_25 (a2 : Int32) (s : Sg) : PQ (f_X9_atPeace_53_25 a2 s) (fun _ s9 => Fr cDy 0 s s9) := by
  have hJ : Fr cDy 0 s s := fr_r
  unfold f_X9_atPeace_53_25
  refine pq_b (fy_X4_allQuarrels  _) (fun _ s2 gs2 => ?_)
  have js2 := fr_t hJ gs2 rfl
  exact fy_X9_atPeace_53_25_b8 BIG _ _ _ _ js2

theorem fy_X2_countWar_25_53_b2 {s0 : Sg} (n : Nat) : ∀ (v2 : Int32) (s : Sg), Fr cDy 1180591620717411303424 s0 s → PQ (f_X2_countWar_25_53_b2 n v2 s) (fun _ s9 => Fr cDy 1180591620717411303424 s0 s9) := by
  induction n with
  | zero => intro v2 s _ r s9 e; cases e
  | succ n ih =>
    intro v2 s hJ
    unfold f_X2_countWar_25_53_b2
    refine pq_if (fun _ => ?_) (fun _ => ?_)
    · exact pq_s hJ
    · refine pq_b (fy_X11_has _ _ _) (fun _ s2 gs2 => ?_)
      have js2 := fr_t hJ gs2 rfl
      refine pq_if (fun _ => ?_) (fun _ => ?_)
      · refine pq_c (fun _ => ?_)
        refine pq_n (fun s4 es4 => ?_)
        have js4 : Fr cDy 1180591620717411303424 s0 s4 := by rw [es4]; exact (fr_i js2 70 rfl rfl)
        exact ih _ _ js4
      · exact ih _ _ js2
theorem fy_X2_countWar_25_53  (s : Sg) : PQ (f_X2_countWar_25_53  s) (fun _ s9 => Fr cDy 1180591620717411303424 s s9) := by
  have hJ : Fr cDy 1180591620717411303424 s s := fr_r
  unfold f_X2_countWar_25_53
  exact fy_X2_countWar_25_53_b2 BIG _ _ hJ

theorem fy_X2_passNight_25_53_b35 {s0 : Sg} (t0 : Int32) (s : Sg) (hJ : Fr cDy 7453886054533808890429536331259187488647197689944019693184815006849433600 s0 s) : PQ (f_X2_passNight_25_53_b35 t0 s) (fun _ s9 => Fr cDy 7453886054533808890429536331259187488647197689944019693184815006849433600 s0 s9) := by
  unfold f_X2_passNight_25_53_b35
  refine pq_b (fy_X2_countWar_25_53  _) (fun _ s8 gs8 => ?_)
  have js8 := fr_t (fr_i hJ 235 rfl rfl) gs8 rfl
  refine pq_n (fun s9 es9 => ?_)
  have js9 : Fr cDy 7453886054533808890429536331259187488647197689944019693184815006849433600 s0 s9 := by rw [es9]; exact (fr_i js8 236 rfl rfl)
  exact pq_s (fr_i js9 237 rfl rfl)
theorem fy_X2_passNight_25_53  (s : Sg) : PQ (f_X2_passNight_25_53  s) (fun _ s9 => Fr cDy 7453886054533808890429536331259187488647197689944019693184815006849433600 s s9) := by
  have hJ : Fr cDy 7453886054533808890429536331259187488647197689944019693184815006849433600 s s := fr_r
  unfold f_X2_passNight_25_53
  refine pq_b (fy_X2_sendCats_25_53  _) (fun _ s2 gs2 => ?_)
  have js2 := fr_t hJ gs2 rfl
  refine pq_b (fy_X2_meltSnow_25_53  _) (fun _ s4 gs4 => ?_)
  have js4 := fr_t js2 gs4 rfl
  refine pq_b (fy_X9_atPeace_53_25 _ _) (fun _ s6 gs6 => ?_)
  have js6 := fr_t js4 gs6 rfl
  refine pq_if (fun _ => ?_) (fun _ => ?_)
  · exact fy_X2_passNight_25_53_b35 _ _ js6
  · exact fy_X2_passNight_25_53_b35 _ _ js6

theorem fy_bitCount (a0 : Int32) (s : Sg) : PQ (f_bitCount a0 s) (fun _ s9 => Fr cDy 0 s s9) := by
  have hJ : Fr cDy 0 s s := fr_r
  unfold f_bitCount
  refine pq_n (fun x1 _ => ?_)
  refine pq_n (fun x2 _ => ?_)
  refine pq_n (fun x3 _ => ?_)
  refine pq_n (fun x4 _ => ?_)
  refine pq_n (fun x5 _ => ?_)
  exact pq_s hJ

theorem fy_X3_begin (a1 : Int32) (s : Sg) : PQ (f_X3_begin a1 s) (fun _ s9 => Fr cDy 944863448176500154656339237670893328082683074871627002561973885504571137861877760 s s9) := by
  have hJ : Fr cDy 944863448176500154656339237670893328082683074871627002561973885504571137861877760 s s := fr_r
  unfold f_X3_begin
  refine pq_n (fun s1 es1 => ?_)
  have js1 : Fr cDy 944863448176500154656339237670893328082683074871627002561973885504571137861877760 s s1 := by rw [es1]; exact (fr_i (fr_i (fr_i hJ 261 rfl rfl) 262 rfl rfl) 263 rfl rfl)
  refine pq_n (fun s2 es2 => ?_)
  have js2 : Fr cDy 944863448176500154656339237670893328082683074871627002561973885504571137861877760 s s2 := by rw [es2]; exact (fr_i (fr_i (fr_i js1 264 rfl rfl) 265 rfl rfl) 266 rfl rfl)
  exact pq_s (fr_i (fr_i js2 267 rfl rfl) 268 rfl rfl)

theorem fy_X3_behindEnd_27 (a2 : Int32) (s : Sg) : PQ (f_X3_behindEnd_27 a2 s) (fun _ s9 => Fr cDy 262144 s s9) := by
  have hJ : Fr cDy 262144 s s := fr_r
  unfold f_X3_behindEnd_27
  refine pq_c (fun _ => ?_)
  refine pq_c (fun _ => ?_)
  refine pq_if (fun _ => ?_) (fun _ => ?_)
  · refine pq_n (fun s3 es3 => ?_)
    have js3 : Fr cDy 262144 s s3 := by rw [es3]; exact (fr_i hJ 18 rfl rfl)
    refine pq_if (fun _ => ?_) (fun _ => ?_)
    · exact pq_s js3
    · exact pq_s js3
  · exact pq_s hJ

theorem fy_X3_maybeRain_25_26 (a3 : Int32) (s : Sg) : PQ (f_X3_maybeRain_25_26 a3 s) (fun _ s9 => Fr cDy 66696243400694130415169514351361032347823841544428282992305417226338607474671616 s s9) := by
  have hJ : Fr cDy 66696243400694130415169514351361032347823841544428282992305417226338607474671616 s s := fr_r
  unfold f_X3_maybeRain_25_26
  refine pq_n (fun s1 es1 => ?_)
  have js1 : Fr cDy 66696243400694130415169514351361032347823841544428282992305417226338607474671616 s s1 := by rw [es1]; exact (fr_i hJ 262 rfl rfl)
  refine pq_if (fun _ => ?_) (fun _ => ?_)
  · exact pq_s js1
  · refine pq_b (fy_X2_letRain_25  _) (fun _ s3 gs3 => ?_)
    have js3 := fr_t js1 gs3 rfl
    exact pq_s (fr_i js3 265 rfl rfl)

theorem fy_X3_tryBuy_25_26 (a3 : Int32) (a4 : Int32) (a5 : Int32) (s : Sg) : PQ (f_X3_tryBuy_25_26 a3 a4 a5 s) (fun _ s9 => Fr cDy 29642774844752947262562590153128636026664002992416863131153040731231549420208128 s s9) := by
  have hJ : Fr cDy 29642774844752947262562590153128636026664002992416863131153040731231549420208128 s s := fr_r
  unfold f_X3_tryBuy_25_26
  refine pq_b (fy_X2_hasRoom _ _ _) (fun _ s2 gs2 => ?_)
  have js2 := fr_t hJ gs2 rfl
  refine pq_if (fun _ => ?_) (fun _ => ?_)
  · exact pq_s (fr_i js2 264 rfl rfl)
  · refine pq_c (fun _ => ?_)
    refine pq_if (fun _ => ?_) (fun _ => ?_)
    · exact pq_s (fr_i js2 264 rfl rfl)
    · refine pq_b (fy_X2_addBought_25 _ _ _ _) (fun _ s5 gs5 => ?_)
      have js5 := fr_t js2 gs5 rfl
      exact pq_s js5

theorem fy_X3_tryStrew_26 (a2 : Int32) (a3 : Int32) (s : Sg) : PQ (f_X3_tryStrew_26 a2 a3 s) (fun _ s9 => Fr cDy 29642774844752946851186450822827125487921707353079236885469074322816792373755904 s s9) := by
  have hJ : Fr cDy 29642774844752946851186450822827125487921707353079236885469074322816792373755904 s s := fr_r
  unfold f_X3_tryStrew_26
  refine pq_b (fy_X2_hasRoom _ _ _) (fun _ s2 gs2 => ?_)
  have js2 := fr_t hJ gs2 rfl
  refine pq_if (fun _ => ?_) (fun _ => ?_)
  · exact pq_s (fr_i js2 264 rfl rfl)
  · refine pq_b (fy_X2_addSalt _ _ _) (fun _ s4 gs4 => ?_)
    have js4 := fr_t js2 gs4 rfl
    exact pq_s js4

theorem fy_X3_tryNight_25_26  (s : Sg) : PQ (f_X3_tryNight_25_26  s) (fun _ s9 => Fr cDy 385356072981788305311616589307751347676958747881074240019231772720016436618067968 s s9) := by
  have hJ : Fr cDy 385356072981788305311616589307751347676958747881074240019231772720016436618067968 s s := fr_r
  unfold f_X3_tryNight_25_26
  refine pq_if (fun _ => ?_) (fun _ => ?_)
  · refine pq_b (fy_X2_passNight_25  _) (fun _ s2 gs2 => ?_)
    have js2 := fr_t hJ gs2 rfl
    refine pq_b (fy_bitCount _ _) (fun _ s4 gs4 => ?_)
    have js4 := fr_t js2 gs4 rfl
    refine pq_b (fy_bitCount _ _) (fun _ s6 gs6 => ?_)
    have js6 := fr_t (fr_i js4 266 rfl rfl) gs6 rfl
    refine pq_n (fun s7 es7 => ?_)
    have js7 : Fr cDy 385356072981788305311616589307751347676958747881074240019231772720016436618067968 s s7 := by rw [es7]; exact (fr_i js6 267 rfl rfl)
    exact pq_s js7
  · exact pq_s (fr_i hJ 264 rfl rfl)

theorem fy_X3_act_25_26_27 (a4 : Int32) (s : Sg) : PQ (f_X3_act_25_26_27 a4 s) (fun _ s9 => Fr cDy 452052316382482440046235566627278240681576693638547598591218837234516479033999360 s s9) := by
  have hJ : Fr cDy 452052316382482440046235566627278240681576693638547598591218837234516479033999360 s s := fr_r
  unfold f_X3_act_25_26_27
  refine pq_c (fun _ => ?_)
  refine pq_if (fun _ => ?_) (fun _ => ?_)
  · refine pq_b (fy_X3_maybeRain_25_26 _ _) (fun _ s3 gs3 => ?_)
    have js3 := fr_t hJ gs3 rfl
    exact pq_s js3
  · refine pq_if (fun _ => ?_) (fun _ => ?_)
    · exact pq_s hJ
    · refine pq_if (fun _ => ?_) (fun _ => ?_)
      · exact pq_s hJ
      · refine pq_if (fun _ => ?_) (fun _ => ?_)
        · refine pq_b (fy_X3_tryBuy_25_26 _ _ _ _) (fun _ s5 gs5 => ?_)
          have js5 := fr_t hJ gs5 rfl
          exact pq_s js5
        · refine pq_if (fun _ => ?_) (fun _ => ?_)
          · refine pq_b (fy_X3_tryStrew_26 _ _ _) (fun _ s7 gs7 => ?_)
            have js7 := fr_t hJ gs7 rfl
            exact pq_s js7
          · refine pq_if (fun _ => ?_) (fun _ => ?_)
            · refine pq_b (fy_X2_clearStep _ _) (fun _ s9 gs9 => ?_)
              have js9 := fr_t hJ gs9 rfl
              exact pq_s js9
            · refine pq_if (fun _ => ?_) (fun _ => ?_)
              · refine pq_b (fy_X2_letSnow_25 _ _) (fun _ s11 gs11 => ?_)
                have js11 := fr_t hJ gs11 rfl
                exact pq_s js11
              · refine pq_if (fun _ => ?_) (fun _ => ?_)
                · refine pq_b (fy_X3_tryNight_25_26  _) (fun _ s13 gs13 => ?_)
                  have js13 := fr_t hJ gs13 rfl
                  exact pq_s js13
                · exact pq_s hJ

theorem fy_X3_holds_26_27_25 (a3 : Int32) (s : Sg) : PQ (f_X3_holds_26_27_25 a3 s) (fun _ s9 => Fr cDy 0 s s9) := by
  have hJ : Fr cDy 0 s s := fr_r
  unfold f_X3_holds_26_27_25
  refine pq_c (fun _ => ?_)
  refine pq_if (fun _ => ?_) (fun _ => ?_)
  · refine pq_b (fy_X2_lying _ _) (fun _ s3 gs3 => ?_)
    have js3 := fr_t hJ gs3 rfl
    refine pq_if (fun _ => ?_) (fun _ => ?_)
    · exact pq_s js3
    · exact pq_s js3
  · refine pq_if (fun _ => ?_) (fun _ => ?_)
    · refine pq_b (fy_X2_lying _ _) (fun _ s5 gs5 => ?_)
      have js5 := fr_t hJ gs5 rfl
      refine pq_if (fun _ => ?_) (fun _ => ?_)
      · exact pq_s js5
      · exact pq_s js5
    · refine pq_if (fun _ => ?_) (fun _ => ?_)
      · refine pq_b (fy_X11_has _ _ _) (fun _ s7 gs7 => ?_)
        have js7 := fr_t hJ gs7 rfl
        refine pq_c (fun _ => ?_)
        exact pq_s js7
      · refine pq_if (fun _ => ?_) (fun _ => ?_)
        · refine pq_b (fy_X9_inTruce_26_25  _) (fun _ s9 gs9 => ?_)
          have js9 := fr_t hJ gs9 rfl
          refine pq_b (fy_X11_has _ _ _) (fun _ s11 gs11 => ?_)
          have js11 := fr_t js9 gs11 rfl
          refine pq_c (fun _ => ?_)
          exact pq_s js11
        · refine pq_b (fy_X2_lying _ _) (fun _ s13 gs13 => ?_)
          have js13 := fr_t hJ gs13 rfl
          refine pq_if (fun _ => ?_) (fun _ => ?_)
          · exact pq_s js13
          · exact pq_s js13

theorem fy_X3_behindStep_25_26_27 (a4 : Int32) (s : Sg) : PQ (f_X3_behindStep_25_26_27 a4 s) (fun _ s9 => Fr cDy 262144 s s9) := by
  have hJ : Fr cDy 262144 s s := fr_r
  unfold f_X3_behindStep_25_26_27
  refine pq_c (fun _ => ?_)
  refine pq_if (fun _ => ?_) (fun _ => ?_)
  · refine pq_b (fy_X3_holds_26_27_25 _ _) (fun _ s3 gs3 => ?_)
    have js3 := fr_t hJ gs3 rfl
    refine pq_if (fun _ => ?_) (fun _ => ?_)
    · exact pq_s js3
    · exact pq_s js3
  · refine pq_if (fun _ => ?_) (fun _ => ?_)
    · refine pq_n (fun s4 es4 => ?_)
      have js4 : Fr cDy 262144 s s4 := by rw [es4]; exact (fr_i hJ 18 rfl rfl)
      exact pq_s js4
    · refine pq_if (fun _ => ?_) (fun _ => ?_)
      · exact pq_s hJ
      · exact pq_s hJ

theorem fy_X3_run_25_26_27_b12 {s0 : Sg} (n : Nat) : ∀ (v5 : Int32) (v6 : Int32) (s : Sg), Fr cDy 944863448176500167768953678824253976505093748375513839143150314772194758781829120 s0 s → PQ (f_X3_run_25_26_27_b12 n v5 v6 s) (fun _ s9 => Fr cDy 944863448176500167768953678824253976505093748375513839143150314772194758781829120 s0 s9) := by
  induction n with
  | zero => intro v5 v6 s _ r s9 e; cases e
  | succ n ih =>
    intro v5 v6 s hJ
    unfold f_X3_run_25_26_27_b12
    refine pq_if (fun _ => ?_) (fun _ => ?_)
    · exact pq_s hJ
    · refine pq_if (fun _ => ?_) (fun _ => ?_)
      · exact pq_s hJ
      · refine pq_c (fun _ => ?_)
        refine pq_if (fun _ => ?_) (fun _ => ?_)
        · refine pq_b (fy_X3_behindEnd_27 _ _) (fun _ s5 gs5 => ?_)
          have js5 := fr_t hJ gs5 rfl
          exact ih _ _ _ js5
        · refine pq_if (fun _ => ?_) (fun _ => ?_)
          · refine pq_b (fy_X3_act_25_26_27 _ _) (fun _ s7 gs7 => ?_)
            have js7 := fr_t (fr_i hJ 263 rfl rfl) gs7 rfl
            refine pq_b (fy_X3_behindStep_25_26_27 _ _) (fun _ s9 gs9 => ?_)
            have js9 := fr_t js7 gs9 rfl
            exact ih _ _ _ js9
          · exact pq_s (fr_i hJ 268 rfl rfl)
theorem fy_X3_run_25_26_27 (a4 : Int32) (s : Sg) : PQ (f_X3_run_25_26_27 a4 s) (fun _ s9 => Fr cDy 944863448176500167768953678824253976505093748375513839143150314772194758781829120 s s9) := by
  have hJ : Fr cDy 944863448176500167768953678824253976505093748375513839143150314772194758781829120 s s := fr_r
  unfold f_X3_run_25_26_27
  refine pq_b (fy_X3_begin _ _) (fun _ s2 gs2 => ?_)
  have js2 := fr_t hJ gs2 rfl
  exact fy_X3_run_25_26_27_b12 BIG _ _ _ js2

theorem fy_X3_begin_5 (a1 : Int32) (s : Sg) : PQ (f_X3_begin_5 a1 s) (fun _ s9 => Fr cDy 967540170932736158368091379374994767956667468668546050623461258756680845170562826240 s s9) := by
  have hJ : Fr cDy 967540170932736158368091379374994767956667468668546050623461258756680845170562826240 s s := fr_r
  unfold f_X3_begin_5
  refine pq_n (fun s1 es1 => ?_)
  have js1 : Fr cDy 967540170932736158368091379374994767956667468668546050623461258756680845170562826240 s s1 := by rw [es1]; exact (fr_i (fr_i (fr_i hJ 271 rfl rfl) 272 rfl rfl) 273 rfl rfl)
  refine pq_n (fun s2 es2 => ?_)
  have js2 : Fr cDy 967540170932736158368091379374994767956667468668546050623461258756680845170562826240 s s2 := by rw [es2]; exact (fr_i (fr_i (fr_i js1 274 rfl rfl) 275 rfl rfl) 276 rfl rfl)
  exact pq_s (fr_i (fr_i js2 277 rfl rfl) 278 rfl rfl)

theorem fy_X3_behindEnd_27_5 (a2 : Int32) (s : Sg) : PQ (f_X3_behindEnd_27_5 a2 s) (fun _ s9 => Fr cDy 524288 s s9) := by
  have hJ : Fr cDy 524288 s s := fr_r
  unfold f_X3_behindEnd_27_5
  refine pq_c (fun _ => ?_)
  refine pq_c (fun _ => ?_)
  refine pq_if (fun _ => ?_) (fun _ => ?_)
  · refine pq_n (fun s3 es3 => ?_)
    have js3 : Fr cDy 524288 s s3 := by rw [es3]; exact (fr_i hJ 19 rfl rfl)
    refine pq_if (fun _ => ?_) (fun _ => ?_)
    · exact pq_s js3
    · exact pq_s js3
  · exact pq_s hJ

theorem fy_X2_letRain_25_53_b4 {s0 : Sg} (n : Nat) : ∀ (v2 : Int32) (v3 : Int32) (s : Sg), Fr cDy 1987702947875682370781209688335783330305919383985071770608664745483436032 s0 s → PQ (f_X2_letRain_25_53_b4 n v2 v3 s) (fun _ s9 => Fr cDy 1987702947875682370781209688335783330305919383985071770608664745483436032 s0 s9) := by
  induction n with
  | zero => intro v2 v3 s _ r s9 e; cases e
  | succ n ih =>
    intro v2 v3 s hJ
    unfold f_X2_letRain_25_53_b4
    refine pq_if (fun _ => ?_) (fun _ => ?_)
    · exact pq_s (fr_i (fr_i hJ 240 rfl rfl) 237 rfl rfl)
    · refine pq_c (fun _ => ?_)
      refine pq_n (fun x2 _ => ?_)
      refine pq_n (fun x3 _ => ?_)
      refine pq_n (fun s4 es4 => ?_)
      have js4 : Fr cDy 1987702947875682370781209688335783330305919383985071770608664745483436032 s0 s4 := by rw [es4]; exact (fr_i (fr_i hJ 68 rfl rfl) 67 rfl rfl)
      exact ih _ _ _ js4
theorem fy_X2_letRain_25_53  (s : Sg) : PQ (f_X2_letRain_25_53  s) (fun _ s9 => Fr cDy 1987702947875682370781209688335783330305919383985071770608664745483436032 s s9) := by
  have hJ : Fr cDy 1987702947875682370781209688335783330305919383985071770608664745483436032 s s := fr_r
  unfold f_X2_letRain_25_53
  exact fy_X2_letRain_25_53_b4 BIG _ _ _ hJ

theorem fy_X3_maybeRain_25_53_5 (a3 : Int32) (s : Sg) : PQ (f_X3_maybeRain_25_53_5 a3 s) (fun _ s9 => Fr cDy 68296953244298490597388015032545546249982898765732699427994101800492018522229047296 s s9) := by
  have hJ : Fr cDy 68296953244298490597388015032545546249982898765732699427994101800492018522229047296 s s := fr_r
  unfold f_X3_maybeRain_25_53_5
  refine pq_n (fun s1 es1 => ?_)
  have js1 : Fr cDy 68296953244298490597388015032545546249982898765732699427994101800492018522229047296 s s1 := by rw [es1]; exact (fr_i hJ 272 rfl rfl)
  refine pq_if (fun _ => ?_) (fun _ => ?_)
  · exact pq_s js1
  · refine pq_b (fy_X2_letRain_25_53  _) (fun _ s3 gs3 => ?_)
    have js3 := fr_t js1 gs3 rfl
    exact pq_s (fr_i js3 275 rfl rfl)

theorem fy_X2_hasRoom_53 (a1 : Int32) (a2 : Int32) (s : Sg) : PQ (f_X2_hasRoom_53 a1 a2 s) (fun _ s9 => Fr cDy 0 s s9) := by
  have hJ : Fr cDy 0 s s := fr_r
  unfold f_X2_hasRoom_53
  refine pq_b (fy_X2_lying_53 _ _) (fun _ s2 gs2 => ?_)
  have js2 := fr_t hJ gs2 rfl
  refine pq_if (fun _ => ?_) (fun _ => ?_)
  · exact pq_s js2
  · exact pq_s js2

theorem fy_X2_addSalt_53 (a1 : Int32) (a2 : Int32) (s : Sg) : PQ (f_X2_addSalt_53 a1 a2 s) (fun _ s9 => Fr cDy 883423532389192164791648750371459257913741948437809626634755690322722816 s s9) := by
  have hJ : Fr cDy 883423532389192164791648750371459257913741948437809626634755690322722816 s s := fr_r
  unfold f_X2_addSalt_53
  refine pq_c (fun _ => ?_)
  refine pq_n (fun s2 es2 => ?_)
  have js2 : Fr cDy 883423532389192164791648750371459257913741948437809626634755690322722816 s s2 := by rw [es2]; exact (fr_i hJ 67 rfl rfl)
  exact pq_s (fr_i js2 239 rfl rfl)

theorem fy_X2_addBought_25_53 (a2 : Int32) (a3 : Int32) (a4 : Int32) (s : Sg) : PQ (f_X2_addBought_25_53 a2 a3 a4 s) (fun _ s9 => Fr cDy 1325135298583788247187473125557188886870612922656717022496303854821310464 s s9) := by
  have hJ : Fr cDy 1325135298583788247187473125557188886870612922656717022496303854821310464 s s := fr_r
  unfold f_X2_addBought_25_53
  refine pq_c (fun _ => ?_)
  refine pq_n (fun x2 _ => ?_)
  refine pq_n (fun s3 es3 => ?_)
  have js3 : Fr cDy 1325135298583788247187473125557188886870612922656717022496303854821310464 s s3 := by rw [es3]; exact (fr_i hJ 71 rfl rfl)
  refine pq_n (fun s4 es4 => ?_)
  have js4 : Fr cDy 1325135298583788247187473125557188886870612922656717022496303854821310464 s s4 := by rw [es4]; exact (fr_i js3 238 rfl rfl)
  refine pq_b (fy_X2_addSalt_53 _ _ _) (fun _ s6 gs6 => ?_)
  have js6 := fr_t js4 gs6 rfl
  refine pq_c (fun _ => ?_)
  refine pq_n (fun s8 es8 => ?_)
  have js8 : Fr cDy 1325135298583788247187473125557188886870612922656717022496303854821310464 s s8 := by rw [es8]; exact (fr_i js6 68 rfl rfl)
  exact pq_s (fr_i js8 239 rfl rfl)

theorem fy_X3_tryBuy_25_53_5 (a3 : Int32) (a4 : Int32) (a5 : Int32) (s : Sg) : PQ (f_X3_tryBuy_25_53_5 a3 a4 a5 s) (fun _ s9 => Fr cDy 30354201442352152031700380541304956041844795747060292942216285924666683311152693248 s s9) := by
  have hJ : Fr cDy 30354201442352152031700380541304956041844795747060292942216285924666683311152693248 s s := fr_r
  unfold f_X3_tryBuy_25_53_5
  refine pq_b (fy_X2_hasRoom_53 _ _ _) (fun _ s2 gs2 => ?_)
  have js2 := fr_t hJ gs2 rfl
  refine pq_if (fun _ => ?_) (fun _ => ?_)
  · exact pq_s (fr_i js2 274 rfl rfl)
  · refine pq_c (fun _ => ?_)
    refine pq_if (fun _ => ?_) (fun _ => ?_)
    · exact pq_s (fr_i js2 274 rfl rfl)
    · refine pq_b (fy_X2_addBought_25_53 _ _ _ _) (fun _ s5 gs5 => ?_)
      have js5 := fr_t js2 gs5 rfl
      exact pq_s js5

theorem fy_X3_tryStrew_53_5 (a2 : Int32) (a3 : Int32) (s : Sg) : PQ (f_X3_tryStrew_53_5 a2 a3 s) (fun _ s9 => Fr cDy 30354201441910440265505784458909131666659066118103421967997378528805135146654105600 s s9) := by
  have hJ : Fr cDy 30354201441910440265505784458909131666659066118103421967997378528805135146654105600 s s := fr_r
  unfold f_X3_tryStrew_53_5
  refine pq_b (fy_X2_hasRoom_53 _ _ _) (fun _ s2 gs2 => ?_)
  have js2 := fr_t hJ gs2 rfl
  refine pq_if (fun _ => ?_) (fun _ => ?_)
  · exact pq_s (fr_i js2 274 rfl rfl)
  · refine pq_b (fy_X2_addSalt_53 _ _ _) (fun _ s4 gs4 => ?_)
    have js4 := fr_t js2 gs4 rfl
    exact pq_s js4

theorem fy_X2_clearStep_53 (a1 : Int32) (s : Sg) : PQ (f_X2_clearStep_53 a1 s) (fun _ s9 => Fr cDy 3533694129556768659166595001485837031654967793751238358965070171614478336 s s9) := by
  have hJ : Fr cDy 3533694129556768659166595001485837031654967793751238358965070171614478336 s s := fr_r
  unfold f_X2_clearStep_53
  refine pq_b (fy_X2_lying_53 _ _) (fun _ s2 gs2 => ?_)
  have js2 := fr_t hJ gs2 rfl
  refine pq_c (fun _ => ?_)
  refine pq_n (fun s4 es4 => ?_)
  have js4 : Fr cDy 3533694129556768659166595001485837031654967793751238358965070171614478336 s s4 := by rw [es4]; exact (fr_i (fr_i js2 67 rfl rfl) 68 rfl rfl)
  refine pq_n (fun s5 es5 => ?_)
  have js5 : Fr cDy 3533694129556768659166595001485837031654967793751238358965070171614478336 s s5 := by rw [es5]; exact (fr_i js4 241 rfl rfl)
  exact pq_s js5

theorem fy_X2_letSnow_25_53_b2 {s0 : Sg} (n : Nat) : ∀ (v2 : Int32) (v3 : Int32) (s : Sg), Fr cDy 590295810358705651712 s0 s → PQ (f_X2_letSnow_25_53_b2 n v2 v3 s) (fun _ s9 => Fr cDy 590295810358705651712 s0 s9) := by
  induction n with
  | zero => intro v2 v3 s _ r s9 e; cases e
  | succ n ih =>
    intro v2 v3 s hJ
    unfold f_X2_letSnow_25_53_b2
    refine pq_if (fun _ => ?_) (fun _ => ?_)
    · exact pq_s hJ
    · refine pq_b (fy_X4_isGone _ _) (fun _ s2 gs2 => ?_)
      have js2 := fr_t hJ gs2 rfl
      refine pq_if (fun _ => ?_) (fun _ => ?_)
      · refine pq_c (fun _ => ?_)
        refine pq_n (fun s4 es4 => ?_)
        have js4 : Fr cDy 590295810358705651712 s0 s4 := by rw [es4]; exact (fr_i js2 69 rfl rfl)
        exact ih _ _ _ js4
      · exact ih _ _ _ js2
theorem fy_X2_letSnow_25_53 (a2 : Int32) (s : Sg) : PQ (f_X2_letSnow_25_53 a2 s) (fun _ s9 => Fr cDy 590295810358705651712 s s9) := by
  have hJ : Fr cDy 590295810358705651712 s s := fr_r
  unfold f_X2_letSnow_25_53
  exact fy_X2_letSnow_25_53_b2 BIG _ _ _ hJ

theorem fy_X3_tryNight_25_53_5  (s : Sg) : PQ (f_X3_tryNight_25_53_5  s) (fun _ s9 => Fr cDy 394604618740805103585049508713956814242998076671113037944218415421399747939157409792 s s9) := by
  have hJ : Fr cDy 394604618740805103585049508713956814242998076671113037944218415421399747939157409792 s s := fr_r
  unfold f_X3_tryNight_25_53_5
  refine pq_if (fun _ => ?_) (fun _ => ?_)
  · refine pq_b (fy_X2_passNight_25_53  _) (fun _ s2 gs2 => ?_)
    have js2 := fr_t hJ gs2 rfl
    refine pq_b (fy_bitCount _ _) (fun _ s4 gs4 => ?_)
    have js4 := fr_t js2 gs4 rfl
    refine pq_b (fy_bitCount _ _) (fun _ s6 gs6 => ?_)
    have js6 := fr_t (fr_i js4 276 rfl rfl) gs6 rfl
    refine pq_n (fun s7 es7 => ?_)
    have js7 : Fr cDy 394604618740805103585049508713956814242998076671113037944218415421399747939157409792 s s7 := by rw [es7]; exact (fr_i js6 277 rfl rfl)
    exact pq_s js7
  · exact pq_s (fr_i hJ 274 rfl rfl)

theorem fy_X3_act_25_53_27_5 (a4 : Int32) (s : Sg) : PQ (f_X3_act_25_53_27_5 a4 s) (fun _ s9 => Fr cDy 462901571989741567727480782611658516432431136540892882601511018905422366405572952064 s s9) := by
  have hJ : Fr cDy 462901571989741567727480782611658516432431136540892882601511018905422366405572952064 s s := fr_r
  unfold f_X3_act_25_53_27_5
  refine pq_c (fun _ => ?_)
  refine pq_if (fun _ => ?_) (fun _ => ?_)
  · refine pq_b (fy_X3_maybeRain_25_53_5 _ _) (fun _ s3 gs3 => ?_)
    have js3 := fr_t hJ gs3 rfl
    exact pq_s js3
  · refine pq_if (fun _ => ?_) (fun _ => ?_)
    · exact pq_s hJ
    · refine pq_if (fun _ => ?_) (fun _ => ?_)
      · exact pq_s hJ
      · refine pq_if (fun _ => ?_) (fun _ => ?_)
        · refine pq_b (fy_X3_tryBuy_25_53_5 _ _ _ _) (fun _ s5 gs5 => ?_)
          have js5 := fr_t hJ gs5 rfl
          exact pq_s js5
        · refine pq_if (fun _ => ?_) (fun _ => ?_)
          · refine pq_b (fy_X3_tryStrew_53_5 _ _ _) (fun _ s7 gs7 => ?_)
            have js7 := fr_t hJ gs7 rfl
            exact pq_s js7
          · refine pq_if (fun _ => ?_) (fun _ => ?_)
            · refine pq_b (fy_X2_clearStep_53 _ _) (fun _ s9 gs9 => ?_)
              have js9 := fr_t hJ gs9 rfl
              exact pq_s js9
            · refine pq_if (fun _ => ?_) (fun _ => ?_)
              · refine pq_b (fy_X2_letSnow_25_53 _ _) (fun _ s11 gs11 => ?_)
                have js11 := fr_t hJ gs11 rfl
                exact pq_s js11
              · refine pq_if (fun _ => ?_) (fun _ => ?_)
                · refine pq_b (fy_X3_tryNight_25_53_5  _) (fun _ s13 gs13 => ?_)
                  have js13 := fr_t hJ gs13 rfl
                  exact pq_s js13
                · exact pq_s hJ

theorem fy_X9_inTruce_53_25_b7 {s0 : Sg} (n : Nat) : ∀ (v2 : Int32) (v3 : Int32) (s : Sg), Fr cDy 0 s0 s → PQ (f_X9_inTruce_53_25_b7 n v2 v3 s) (fun _ s9 => Fr cDy 0 s0 s9) := by
  induction n with
  | zero => intro v2 v3 s _ r s9 e; cases e
  | succ n ih =>
    intro v2 v3 s hJ
    unfold f_X9_inTruce_53_25_b7
    refine pq_if (fun _ => ?_) (fun _ => ?_)
    · exact pq_s hJ
    · refine pq_c (fun _ => ?_)
      refine pq_b (fy_X2_inSight_53 _ _) (fun _ s5 gs5 => ?_)
      have js5 := fr_t hJ gs5 rfl
      refine pq_b (fy_X9_calmAt_25 _ _ _) (fun _ s7 gs7 => ?_)
      have js7 := fr_t js5 gs7 rfl
      refine pq_n (fun x8 _ => ?_)
      exact ih _ _ _ js7
theorem fy_X9_inTruce_53_25  (s : Sg) : PQ (f_X9_inTruce_53_25  s) (fun _ s9 => Fr cDy 0 s s9) := by
  have hJ : Fr cDy 0 s s := fr_r
  unfold f_X9_inTruce_53_25
  refine pq_b (fy_X4_allQuarrels  _) (fun _ s2 gs2 => ?_)
  have js2 := fr_t hJ gs2 rfl
  exact fy_X9_inTruce_53_25_b7 BIG _ _ _ js2

theorem fy_X3_holds_53_27_25 (a3 : Int32) (s : Sg) : PQ (f_X3_holds_53_27_25 a3 s) (fun _ s9 => Fr cDy 0 s s9) := by
  have hJ : Fr cDy 0 s s := fr_r
  unfold f_X3_holds_53_27_25
  refine pq_c (fun _ => ?_)
  refine pq_if (fun _ => ?_) (fun _ => ?_)
  · refine pq_b (fy_X2_lying_53 _ _) (fun _ s3 gs3 => ?_)
    have js3 := fr_t hJ gs3 rfl
    refine pq_if (fun _ => ?_) (fun _ => ?_)
    · exact pq_s js3
    · exact pq_s js3
  · refine pq_if (fun _ => ?_) (fun _ => ?_)
    · refine pq_b (fy_X2_lying_53 _ _) (fun _ s5 gs5 => ?_)
      have js5 := fr_t hJ gs5 rfl
      refine pq_if (fun _ => ?_) (fun _ => ?_)
      · exact pq_s js5
      · exact pq_s js5
    · refine pq_if (fun _ => ?_) (fun _ => ?_)
      · refine pq_b (fy_X11_has _ _ _) (fun _ s7 gs7 => ?_)
        have js7 := fr_t hJ gs7 rfl
        refine pq_c (fun _ => ?_)
        exact pq_s js7
      · refine pq_if (fun _ => ?_) (fun _ => ?_)
        · refine pq_b (fy_X9_inTruce_53_25  _) (fun _ s9 gs9 => ?_)
          have js9 := fr_t hJ gs9 rfl
          refine pq_b (fy_X11_has _ _ _) (fun _ s11 gs11 => ?_)
          have js11 := fr_t js9 gs11 rfl
          refine pq_c (fun _ => ?_)
          exact pq_s js11
        · refine pq_b (fy_X2_lying_53 _ _) (fun _ s13 gs13 => ?_)
          have js13 := fr_t hJ gs13 rfl
          refine pq_if (fun _ => ?_) (fun _ => ?_)
          · exact pq_s js13
          · exact pq_s js13

theorem fy_X3_behindStep_25_53_27_5 (a4 : Int32) (s : Sg) : PQ (f_X3_behindStep_25_53_27_5 a4 s) (fun _ s9 => Fr cDy 524288 s s9) := by
  have hJ : Fr cDy 524288 s s := fr_r
  unfold f_X3_behindStep_25_53_27_5
  refine pq_c (fun _ => ?_)
  refine pq_if (fun _ => ?_) (fun _ => ?_)
  · refine pq_b (fy_X3_holds_53_27_25 _ _) (fun _ s3 gs3 => ?_)
    have js3 := fr_t hJ gs3 rfl
    refine pq_if (fun _ => ?_) (fun _ => ?_)
    · exact pq_s js3
    · exact pq_s js3
  · refine pq_if (fun _ => ?_) (fun _ => ?_)
    · refine pq_n (fun s4 es4 => ?_)
      have js4 : Fr cDy 524288 s s4 := by rw [es4]; exact (fr_i hJ 19 rfl rfl)
      exact pq_s js4
    · refine pq_if (fun _ => ?_) (fun _ => ?_)
      · exact pq_s hJ
      · exact pq_s hJ

theorem fy_X3_run_25_53_27_5_b12 {s0 : Sg} (n : Nat) : ∀ (v5 : Int32) (v6 : Int32) (s : Sg), Fr cDy 967540170946815720915544129501361669915712600591546312926688851904004924867082715136 s0 s → PQ (f_X3_run_25_53_27_5_b12 n v5 v6 s) (fun _ s9 => Fr cDy 967540170946815720915544129501361669915712600591546312926688851904004924867082715136 s0 s9) := by
  induction n with
  | zero => intro v5 v6 s _ r s9 e; cases e
  | succ n ih =>
    intro v5 v6 s hJ
    unfold f_X3_run_25_53_27_5_b12
    refine pq_if (fun _ => ?_) (fun _ => ?_)
    · exact pq_s hJ
    · refine pq_if (fun _ => ?_) (fun _ => ?_)
      · exact pq_s hJ
      · refine pq_c (fun _ => ?_)
        refine pq_if (fun _ => ?_) (fun _ => ?_)
        · refine pq_b (fy_X3_behindEnd_27_5 _ _) (fun _ s5 gs5 => ?_)
          have js5 := fr_t hJ gs5 rfl
          exact ih _ _ _ js5
        · refine pq_if (fun _ => ?_) (fun _ => ?_)
          · refine pq_b (fy_X3_act_25_53_27_5 _ _) (fun _ s7 gs7 => ?_)
            have js7 := fr_t (fr_i hJ 273 rfl rfl) gs7 rfl
            refine pq_b (fy_X3_behindStep_25_53_27_5 _ _) (fun _ s9 gs9 => ?_)
            have js9 := fr_t js7 gs9 rfl
            exact ih _ _ _ js9
          · exact pq_s (fr_i hJ 278 rfl rfl)
theorem fy_X3_run_25_53_27_5 (a4 : Int32) (s : Sg) : PQ (f_X3_run_25_53_27_5 a4 s) (fun _ s9 => Fr cDy 967540170946815720915544129501361669915712600591546312926688851904004924867082715136 s s9) := by
  have hJ : Fr cDy 967540170946815720915544129501361669915712600591546312926688851904004924867082715136 s s := fr_r
  unfold f_X3_run_25_53_27_5
  refine pq_b (fy_X3_begin_5 _ _) (fun _ s2 gs2 => ?_)
  have js2 := fr_t hJ gs2 rfl
  exact fy_X3_run_25_53_27_5_b12 BIG _ _ _ js2

