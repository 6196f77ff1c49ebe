/-! a street's grains are between 0 and 999: printed by genk.py -/
def Gs (s : Sg) : Prop := ∀ k, k < 8 → (0 ≤ (s.1 67 k).toInt ∧ (s.1 67 k).toInt ≤ 999) ∧ (0 ≤ (s.1 68 k).toInt ∧ (s.1 68 k).toInt ≤ 999) ∧ s.1 69 k = 0
abbrev MGS : Nat := 2037035976334486086268445688409378161051468393665936250636140449354380266745668578448506879
theorem mgs_b {L : Nat} (hL : L &&& MGS = L) : L.testBit 67 = false ∧ L.testBit 68 = false ∧ L.testBit 69 = false := by
  have x : ∀ b, MGS.testBit b = false → L.testBit b = false := fun b hb => by
    rw [← hL, Nat.testBit_and, hb, Bool.and_false]
  exact ⟨x 67 (by decide), x 68 (by decide), x 69 (by decide)⟩
theorem gs_t {s s' : Sg} {L : Nat} (h : Gs s) (f : Fr cC L s s') (hL : L &&& MGS = L) : Gs s' := fun k hk => by
  have b := mgs_b hL
  rw [fr_e f 67 k 67 rfl b.1, fr_e f 68 k 68 rfl b.2.1, fr_e f 69 k 69 rfl b.2.2]
  exact h k hk
theorem gs_i {s : Sg} {c k : Nat} {v : Int32} (h : Gs s) (m : Nat) (hm : cC c k = m) (hL : MGS.testBit m = true) : Gs (pI s c k v) := gs_t h (fr_x m hm) (m_and hL)
theorem wg_0 (a : Int32) (s : Sg) : PQ (f_X7_wrong a s) (fun r _ => r = 0) := by
  unfold f_X7_wrong
  exact pq_if (fun _ => pq_n (fun _ _ => pq_s rfl)) (fun _ => pq_n (fun _ _ => pq_s rfl))
theorem pn_b (a1 a2 : Int32) (s : Sg) : PQ (f_X7_passNumber a1 a2 s) (fun r s' => ¬ r = 0 → a1.toInt ≤ (s'.1 7 7).toInt ∧ (s'.1 7 7).toInt ≤ a2.toInt) := by
  unfold f_X7_passNumber
  refine pq_if (fun _ => pq_b (wi_p (s.1 7 5) a1 a2 s) (fun r1 s2 g => ?_)) (fun _ => pq_b (P := fun r _ => r = 0) ?_ (fun r7 s8 k => pq_c (fun _ => pq_s (fun z => absurd k z))))
  · obtain ⟨es, g⟩ := g
    subst es
    refine pq_if (fun _ => pq_b (P := fun r _ => r = 0) ?_ (fun r3 s4 k => pq_c (fun _ => pq_s (fun z => absurd k z)))) (fun c => pq_b (ft_X7_advance _) (fun _ s6 f6 => pq_s (fun _ => ?_)))
    · exact wg_0 4 _
    · rw [fr_e f6 7 7 187 rfl rfl, q_eq]
      exact r1_y g c
  · exact wg_0 2 _
theorem gs_X6_takeGrains_67 (a1 a3 : Int32) {s : Sg} (h : Gs s) : PQ (f_X6_takeGrains_67 a1 a3 s) (fun _ s9 => Gs s9) := by
  have e0 : (0 : Int32).toInt = 0 := rfl
  have e999 : (999 : Int32).toInt = 999 := rfl
  unfold f_X6_takeGrains_67
  refine pq_if (fun _ => pq_b (ft_X7_advance s) (fun _ s2 f2 => pq_b (pq_and (ft_X7_passNumber 0 999 s2) (pn_b 0 999 s2)) (fun r3 s4 g => pq_if (fun _ => pq_s (gs_t (gs_t h f2 rfl) g.1 rfl)) (fun c => pq_c (fun _ => pq_n (fun s6 e6 => pq_s ?_)))))) (fun _ => pq_s h)
  have J := gs_t (gs_t h f2 rfl) g.1 rfl
  have b := g.2 c
  rw [e6]
  intro k hk
  rw [pI_1, pI_1, pI_1]
  by_cases z : k = a3.toNatClampNeg
  · rw [if_pos ⟨rfl, z⟩, if_neg (fun y => absurd y.1 (by decide)), if_neg (fun y => absurd y.1 (by decide))]
    exact ⟨⟨by omega, by omega⟩, (J k hk).2⟩
  · rw [if_neg (fun y => z y.2), if_neg (fun y => z y.2), if_neg (fun y => z y.2)]
    exact J k hk
theorem gs_X6_takeGrains_68 (a1 a3 : Int32) {s : Sg} (h : Gs s) : PQ (f_X6_takeGrains_68 a1 a3 s) (fun _ s9 => Gs s9) := by
  have e0 : (0 : Int32).toInt = 0 := rfl
  have e999 : (999 : Int32).toInt = 999 := rfl
  unfold f_X6_takeGrains_68
  refine pq_if (fun _ => pq_b (ft_X7_advance s) (fun _ s2 f2 => pq_b (pq_and (ft_X7_passNumber 0 999 s2) (pn_b 0 999 s2)) (fun r3 s4 g => pq_if (fun _ => pq_s (gs_t (gs_t h f2 rfl) g.1 rfl)) (fun c => pq_c (fun _ => pq_n (fun s6 e6 => pq_s ?_)))))) (fun _ => pq_s h)
  have J := gs_t (gs_t h f2 rfl) g.1 rfl
  have b := g.2 c
  rw [e6]
  intro k hk
  rw [pI_1, pI_1, pI_1]
  by_cases z : k = a3.toNatClampNeg
  · rw [if_neg (fun y => absurd y.1 (by decide)), if_pos ⟨rfl, z⟩, if_neg (fun y => absurd y.1 (by decide))]
    exact ⟨(J k hk).1, ⟨by omega, by omega⟩, (J k hk).2.2⟩
  · rw [if_neg (fun y => z y.2), if_neg (fun y => z y.2), if_neg (fun y => z y.2)]
    exact J k hk
theorem gs_X6_takeHouse_b64 (v1 : Int32) (t0 : Int32) (s : Sg) (hJ : Gs s) : PQ (f_X6_takeHouse_b64 v1 t0 s) (fun _ s9 => Gs s9) := by
  unfold f_X6_takeHouse_b64
  refine pq_b ((gs_X6_takeGrains_67 _ _ hJ)) (fun _ s4 gs4 => ?_)
  refine pq_if (fun _ => ?_) (fun _ => ?_)
  · exact pq_s gs4
  · refine pq_b ((gs_X6_takeGrains_68 _ _ gs4)) (fun _ s6 gs6 => ?_)
    refine pq_if (fun _ => ?_) (fun _ => ?_)
    · exact pq_s gs6
    · refine pq_if (fun _ => ?_) (fun _ => ?_)
      · refine pq_if (fun _ => ?_) (fun _ => ?_)
        · refine pq_n (fun s7 es7 => ?_)
          have js7 : Gs s7 := by rw [es7]; exact (gs_i gs6 207 rfl rfl)
          refine pq_b (ft_X7_advance  _) (fun _ s9 gs9 => ?_)
          have js9 := gs_t js7 gs9 rfl
          refine pq_b (ft_X7_pass _ _) (fun _ s11 gs11 => ?_)
          have js11 := gs_t js9 gs11 rfl
          refine pq_c (fun _ => ?_)
          exact pq_s js11
        · refine pq_b (ft_X7_wrong _ _) (fun _ s13 gs13 => ?_)
          have js13 := gs_t gs6 gs13 rfl
          refine pq_c (fun _ => ?_)
          exact pq_s js13
      · refine pq_b (ft_X7_pass _ _) (fun _ s15 gs15 => ?_)
        have js15 := gs_t gs6 gs15 rfl
        refine pq_c (fun _ => ?_)
        exact pq_s js15
theorem gs_X6_takeHouse_b59 (v1 : Int32) (s : Sg) (hJ : Gs s) : PQ (f_X6_takeHouse_b59 v1 s) (fun _ s9 => Gs s9) := by
  unfold f_X6_takeHouse_b59
  exact gs_X6_takeHouse_b64 _ _ _ hJ
theorem gs_X6_takeHouse  {s : Sg} (hJ : Gs s) : PQ (f_X6_takeHouse  s) (fun _ s9 => Gs s9) := by
  unfold f_X6_takeHouse
  refine pq_b (ft_X6_takeNew _ _ _ _) (fun _ s2 gs2 => ?_)
  have js2 := gs_t hJ gs2 rfl
  refine pq_if (fun _ => ?_) (fun _ => ?_)
  · exact pq_s js2
  · refine pq_if (fun _ => ?_) (fun _ => ?_)
    · exact gs_X6_takeHouse_b59 _ _ (gs_i js2 203 rfl rfl)
    · refine pq_if (fun _ => ?_) (fun _ => ?_)
      · exact gs_X6_takeHouse_b59 _ _ (gs_i js2 203 rfl rfl)
      · exact gs_X6_takeHouse_b64 _ _ _ (gs_i js2 203 rfl rfl)
theorem gs_X6_takeText_b21 (n : Nat) : ∀ (v1 : Int32) (v2 : Int32) (s : Sg), Gs s → PQ (f_X6_takeText_b21 n v1 v2 s) (fun _ s9 => Gs s9) := by
  induction n with
  | zero => intro v1 v2 s _ r s9 e; cases e
  | succ n ih =>
    intro v1 v2 s hJ
    unfold f_X6_takeText_b21
    refine pq_if (fun _ => ?_) (fun _ => ?_)
    · refine pq_c (fun _ => ?_)
      exact pq_s hJ
    · refine pq_if (fun _ => ?_) (fun _ => ?_)
      · refine pq_c (fun _ => ?_)
        exact pq_s hJ
      · refine pq_if (fun _ => ?_) (fun _ => ?_)
        · refine pq_c (fun _ => ?_)
          exact pq_s hJ
        · refine pq_if (fun _ => ?_) (fun _ => ?_)
          · refine pq_b ((gs_X6_takeHouse  hJ)) (fun _ s4 gs4 => ?_)
            exact ih _ _ _ gs4
          · refine pq_if (fun _ => ?_) (fun _ => ?_)
            · refine pq_b (ft_X7_wrong _ _) (fun _ s6 gs6 => ?_)
              have js6 := gs_t hJ gs6 rfl
              exact ih _ _ _ js6
            · refine pq_if (fun _ => ?_) (fun _ => ?_)
              · refine pq_b (ft_X7_wrong _ _) (fun _ s8 gs8 => ?_)
                have js8 := gs_t hJ gs8 rfl
                exact ih _ _ _ js8
              · refine pq_if (fun _ => ?_) (fun _ => ?_)
                · refine pq_b (ft_X6_takeCounts  _) (fun _ s10 gs10 => ?_)
                  have js10 := gs_t hJ gs10 rfl
                  exact ih _ _ _ js10
                · refine pq_if (fun _ => ?_) (fun _ => ?_)
                  · refine pq_b (ft_X6_takeQuarrel  _) (fun _ s12 gs12 => ?_)
                    have js12 := gs_t hJ gs12 rfl
                    exact ih _ _ _ js12
                  · refine pq_if (fun _ => ?_) (fun _ => ?_)
                    · refine pq_b (ft_X7_wrong _ _) (fun _ s14 gs14 => ?_)
                      have js14 := gs_t hJ gs14 rfl
                      exact ih _ _ _ js14
                    · refine pq_if (fun _ => ?_) (fun _ => ?_)
                      · refine pq_b (ft_X7_wrong _ _) (fun _ s16 gs16 => ?_)
                        have js16 := gs_t hJ gs16 rfl
                        exact ih _ _ _ js16
                      · refine pq_if (fun _ => ?_) (fun _ => ?_)
                        · refine pq_b (ft_X7_wrong _ _) (fun _ s18 gs18 => ?_)
                          have js18 := gs_t hJ gs18 rfl
                          exact ih _ _ _ js18
                        · refine pq_if (fun _ => ?_) (fun _ => ?_)
                          · refine pq_b (ft_X6_takeCat  _) (fun _ s20 gs20 => ?_)
                            have js20 := gs_t hJ gs20 rfl
                            exact ih _ _ _ js20
                          · refine pq_if (fun _ => ?_) (fun _ => ?_)
                            · refine pq_b (ft_X7_wrong _ _) (fun _ s22 gs22 => ?_)
                              have js22 := gs_t hJ gs22 rfl
                              exact ih _ _ _ js22
                            · refine pq_if (fun _ => ?_) (fun _ => ?_)
                              · refine pq_b (ft_X7_wrong _ _) (fun _ s24 gs24 => ?_)
                                have js24 := gs_t hJ gs24 rfl
                                exact ih _ _ _ js24
                              · refine pq_if (fun _ => ?_) (fun _ => ?_)
                                · refine pq_b (ft_X7_wrong _ _) (fun _ s26 gs26 => ?_)
                                  have js26 := gs_t hJ gs26 rfl
                                  exact ih _ _ _ js26
                                · refine pq_if (fun _ => ?_) (fun _ => ?_)
                                  · refine pq_b (ft_X6_takeGrocer  _) (fun _ s28 gs28 => ?_)
                                    have js28 := gs_t hJ gs28 rfl
                                    exact ih _ _ _ js28
                                  · refine pq_if (fun _ => ?_) (fun _ => ?_)
                                    · refine pq_b (ft_X7_wrong _ _) (fun _ s30 gs30 => ?_)
                                      have js30 := gs_t hJ gs30 rfl
                                      exact ih _ _ _ js30
                                    · refine pq_if (fun _ => ?_) (fun _ => ?_)
                                      · refine pq_b (ft_X7_wrong _ _) (fun _ s32 gs32 => ?_)
                                        have js32 := gs_t hJ gs32 rfl
                                        exact ih _ _ _ js32
                                      · refine pq_if (fun _ => ?_) (fun _ => ?_)
                                        · refine pq_b (ft_X7_wrong _ _) (fun _ s34 gs34 => ?_)
                                          have js34 := gs_t hJ gs34 rfl
                                          exact ih _ _ _ js34
                                        · refine pq_if (fun _ => ?_) (fun _ => ?_)
                                          · refine pq_b (ft_X6_takeWashes  _) (fun _ s36 gs36 => ?_)
                                            have js36 := gs_t hJ gs36 rfl
                                            exact ih _ _ _ js36
                                          · refine pq_b (ft_X7_wrong _ _) (fun _ s38 gs38 => ?_)
                                            have js38 := gs_t hJ gs38 rfl
                                            exact ih _ _ _ js38
/-- a street that is taken has its grains so -/
theorem gs_street (a1 : Int32) (s : Sg) : PQ (f_X11_street a1 s) (fun _ s9 => s9.1 0 15 = 0 → ∀ k, k < 8 → (0 ≤ (s9.1 40 k).toInt ∧ (s9.1 40 k).toInt ≤ 999) ∧ (0 ≤ (s9.1 41 k).toInt ∧ (s9.1 41 k).toInt ≤ 999) ∧ s9.1 42 k = 0) := by
  unfold f_X11_street
  refine pq_b (wi_p a1 0 (s.1 0 13) s) (fun r1 s2 g => ?_)
  have rf : ∀ (w : Int32) (u : Sg), ¬ w = 0 → PQ (bd (f_X11_refuse w u) (fun r s => some (r, s))) (fun _ s9 => s9.1 0 15 = 0 → ∀ k, k < 8 → (0 ≤ (s9.1 40 k).toInt ∧ (s9.1 40 k).toInt ≤ 999) ∧ (0 ≤ (s9.1 41 k).toInt ∧ (s9.1 41 k).toInt ≤ 999) ∧ s9.1 42 k = 0) := fun w u hw => by
    have q : PQ (some ((-1 : Int32), pI u 0 15 w)) (fun _ s9 => s9.1 0 15 = 0 → ∀ k, k < 8 → (0 ≤ (s9.1 40 k).toInt ∧ (s9.1 40 k).toInt ≤ 999) ∧ (0 ≤ (s9.1 41 k).toInt ∧ (s9.1 41 k).toInt ≤ 999) ∧ s9.1 42 k = 0) := pq_s (fun z => absurd z (by rw [q_eq]; exact hw))
    exact q
  refine pq_if (fun _ => rf 1 s2 (by decide)) (fun _ => pq_b (ft_X7_begin a1 s2) (fun _ s6 f6 => pq_b (P := fun _ s8 => Gs s8) ?_ (fun r7 s8 z8 => pq_b (ct_x s8) (fun _ s10 e10 => pq_if (fun _ => rf 9 s10 (by decide)) (fun _ => pq_b (cw_X10_copyFrom_51 s10) (fun _ s14 w => ?_))))))
  · unfold f_X6_takeText
    refine pq_b (clr_51 s6) (fun _ s2 c => gs_X6_takeText_b21 BIG 1 0 _ (fun k hk => ?_))
    have e0 : (0 : Int32).toInt = 0 := rfl
    rw [q_nc rfl, q_nc rfl, q_nc rfl, q_nc rfl, q_nc rfl, q_nc rfl, c.2.1.1.1 k hk, c.2.1.1.2.1 k hk, c.2.1.1.2.2.1 k hk, e0]
    decide
  · have q : PQ (some (s14.1 25 14, pI s14 0 15 0)) (fun _ s9 => s9.1 0 15 = 0 → ∀ k, k < 8 → (0 ≤ (s9.1 40 k).toInt ∧ (s9.1 40 k).toInt ≤ 999) ∧ (0 ≤ (s9.1 41 k).toInt ∧ (s9.1 41 k).toInt ≤ 999) ∧ s9.1 42 k = 0) := pq_s (fun _ k hk => by
      have a : s14.1 40 k = s10.1 67 k := w.2.1 16 k (by decide) (by decide) (Nat.zero_le _) hk
      have b : s14.1 41 k = s10.1 68 k := w.2.1 17 k (by decide) (by decide) (Nat.zero_le _) hk
      have d : s14.1 42 k = s10.1 69 k := w.2.1 18 k (by decide) (by decide) (Nat.zero_le _) hk
      rw [q_nc rfl, q_nc rfl, q_nc rfl, a, b, d, e10, q_nc rfl, q_nc rfl, q_nc rfl, q_nc rfl, q_nc rfl, q_nc rfl, q_nc rfl, q_nc rfl, q_nc rfl]
      exact z8 k hk)
    exact q
