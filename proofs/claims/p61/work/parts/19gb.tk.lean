/-! the names of the marks and of the street in use stay while a street is read -/
def NLp (n0 s : Sg) : Prop := ∀ p, p < 96 → s.2 2 p = n0.2 2 p
def CntN (s : Sg) : Prop := ∀ q, q < 4 → 0 ≤ (s.1 1 (1920 + q)).toInt ∧ (s.1 1 (1920 + q)).toInt ≤ 8
abbrev MNL : Nat := 2037035976334486086268445688409378161051468393665936250636140449354381299763336706183397371
theorem nl_t {n0 s s' : Sg} {L : Nat} (h : NLp n0 s) (f : Fr cdN L s s') (hL : L &&& MNL = L) : NLp n0 s' := fun p hp => by
  rw [fr_e2 (fr_up f hL) 2 p 2 rfl rfl]
  exact h p hp
theorem nl_i {n0 s : Sg} {c k : Nat} {v : Int32} (h : NLp n0 s) (m : Nat) (_ : cdN c k = m) (_ : MNL.testBit m = true) : NLp n0 (pI s c k v) := h
theorem nl_new {n0 s : Sg} (a1 a2 a3 : Int32) (hC : CntN s) (ha : (0 ≤ a1.toInt ∧ a1.toInt ≤ 3) ∧ 0 ≤ a3.toInt ∧ a3.toInt ≤ 20) (h : NLp n0 s) : PQ (f_X12_newOne a1 a2 a3 s) (fun _ s9 => NLp n0 s9) := by
  have e1920 : (1920 : Int32).toInt = 1920 := rfl
  have e96 : (96 : Int32).toInt = 96 := rfl
  have x0 : (1920 + a1).toInt = (1920 : Int32).toInt + a1.toInt := i_addx _ _ (by omega)
  have d0 : (1920 + a1).toNatClampNeg = 1920 + a1.toInt.toNat := cl_h (by omega)
  have fh : ∀ (a b : Int32) (u : Sg), PQ (f_X12_findHere a b u) (fun _ u' => u' = u) := fun a b u => by
    have lp : ∀ (m : Nat) (v1 v2 v3 : Int32), PQ (f_X12_findHere_b2 m v1 v2 v3 u) (fun _ u' => u' = u) := fun m => by
      induction m with
      | zero => intro v1 v2 v3 r s' e; cases e
      | succ m ih =>
        intro v1 v2 v3
        unfold f_X12_findHere_b2
        refine pq_if (fun _ => pq_s rfl) (fun _ => pq_c (fun _ => pq_b (nh_k u) (fun r2 s3 g => ?_)))
        subst g
        exact pq_if (fun _ => pq_s rfl) (fun _ => ih _ _ _)
    unfold f_X12_findHere
    exact lp BIG a b 0
  have fl : ∀ (a : Int32) (u : Sg), NLp n0 u → PQ (bd (f_X12_fails a u) (fun r s => ck (r = 0 ∨ r = 1) (some (r, s)))) (fun _ s9 => NLp n0 s9) := fun a u hu => pq_b (ft_X12_fails a u) (fun _ s9 g => pq_c (fun _ => pq_s (nl_t hu g rfl)))
  unfold f_X12_newOne
  refine pq_c (fun _ => pq_if (fun _ => fl 6 s h) (fun c => pq_b (pq_and (ft_X12_ahead s) (ah_k s)) (fun _ s5 k => pq_b (in_k s5) (fun r6 s7 g => ?_))))
  subst g
  have h7 : NLp n0 s7 := nl_t h k.1 rfl
  have c7 := k.2.1
  refine pq_if (fun _ => fl 2 s7 h7) (fun _ => pq_b (fh _ _ s7) (fun r10 s11 g => ?_))
  subst g
  refine pq_if (fun _ => pq_b (fh _ _ s11) (fun r12 s13 g => ?_)) (fun _ => fl 3 s11 h7)
  subst g
  refine pq_if (fun _ => pq_b (fh _ _ s13) (fun r14 s15 g => ?_)) (fun _ => fl 3 s13 h7)
  subst g
  refine pq_if (fun _ => pq_b (fh _ _ s15) (fun r16 s17 g => ?_)) (fun _ => fl 3 s15 h7)
  subst g
  refine pq_if (fun _ => pq_b (nh_k s17) (fun r18 s19 g => pq_c (fun _ => pq_n (fun s21 e => ?_)))) (fun _ => fl 3 s17 h7)
  subst g
  have hc := hC a1.toInt.toNat (by omega)
  rw [← c7] at hc
  rw [d0] at e
  have x1 : (96 + a3).toInt = (96 : Int32).toInt + a3.toInt := i_addx _ _ (by omega)
  have x2 : ((96 + a3) + s19.1 1 (1920 + a1.toInt.toNat)).toInt = (96 + a3).toInt + (s19.1 1 (1920 + a1.toInt.toNat)).toInt := i_addx _ _ (by omega)
  have cl := cl_nat ((96 + a3) + s19.1 1 (1920 + a1.toInt.toNat))
  have h21 : NLp n0 s21 := fun p hp => by
    rw [e, pL_2, if_neg (fun z => by have := z.2; omega)]
    exact h7 p hp
  exact pq_b (ft_X12_ahead s21) (fun _ s23 g => pq_s (nl_t h21 g rfl))
def T54 (s : Sg) : Prop := s.1 54 6 = 0
abbrev MT54 : Nat := 2037035976334486086268445267160211486822721601993825515954411173773999697566891688939487231
theorem th_t {s s' : Sg} {L : Nat} (h : T54 s) (f : Fr cC L s s') (hL : L &&& MT54 = L) : T54 s' := by
  unfold T54
  rw [fr_e (fr_up f hL) 54 6 218 rfl rfl]
  exact h
theorem th_i {s : Sg} {c k : Nat} {v : Int32} (h : T54 s) (m : Nat) (hm : cC c k = m) (hL : MT54.testBit m = true) : T54 (pI s c k v) := th_t h (fr_x m hm) (m_and hL)

theorem nl_X12_aHouse_b144 {n0 : Sg}  (s : Sg) (hJ : NLp n0 s) : PQ (f_X12_aHouse_b144  s) (fun _ s9 => NLp n0 s9) := by
  unfold f_X12_aHouse_b144
  exact pq_s (nl_i hJ 1 rfl rfl)
theorem nl_X12_aHouse_b106 {n0 : Sg} (v1 : Int32) (v3 : Int32) (s : Sg) (hJ : NLp n0 s) : PQ (f_X12_aHouse_b106 v1 v3 s) (fun _ s9 => NLp n0 s9) := by
  unfold f_X12_aHouse_b106
  refine pq_b (ft_X12_inWords_1001  _) (fun _ s11 gs11 => ?_)
  have js11 := nl_t hJ gs11 rfl
  refine pq_if (fun _ => ?_) (fun _ => ?_)
  · refine pq_if (fun _ => ?_) (fun _ => ?_)
    · refine pq_n (fun s12 es12 => ?_)
      have js12 : NLp n0 s12 := by rw [es12]; exact (nl_i js11 1 rfl rfl)
      refine pq_b (ft_X12_ahead  _) (fun _ s14 gs14 => ?_)
      have js14 := nl_t js12 gs14 rfl
      exact nl_X12_aHouse_b144  _ js14
    · refine pq_b (ft_X12_fails _ _) (fun _ s16 gs16 => ?_)
      have js16 := nl_t js11 gs16 rfl
      refine pq_c (fun _ => ?_)
      exact pq_s js16
  · exact nl_X12_aHouse_b144  _ js11
theorem nl_X12_aHouse_b81 {n0 : Sg} (v1 : Int32) (v2 : Int32) (v3 : Int32) (s : Sg) (hJ : NLp n0 s) : PQ (f_X12_aHouse_b81 v1 v2 v3 s) (fun _ s9 => NLp n0 s9) := by
  unfold f_X12_aHouse_b81
  refine pq_b (ft_X12_isThere _ _) (fun _ s9 gs9 => ?_)
  have js9 := nl_t hJ gs9 rfl
  refine pq_if (fun _ => ?_) (fun _ => ?_)
  · exact nl_X12_aHouse_b106 _ _ _ js9
  · refine pq_b (ft_X12_number _ _ _ _) (fun _ s18 gs18 => ?_)
    have js18 := nl_t js9 gs18 rfl
    refine pq_if (fun _ => ?_) (fun _ => ?_)
    · exact pq_s js18
    · exact nl_X12_aHouse_b106 _ _ _ js18
theorem nl_X12_aHouse_b57 {n0 : Sg} (v1 : Int32) (v2 : Int32) (t0 : Int32) (s : Sg) (hJ : NLp n0 s) : PQ (f_X12_aHouse_b57 v1 v2 t0 s) (fun _ s9 => NLp n0 s9) := by
  unfold f_X12_aHouse_b57
  refine pq_b (ft_X12_isThere _ _) (fun _ s7 gs7 => ?_)
  have js7 := nl_t hJ gs7 rfl
  refine pq_if (fun _ => ?_) (fun _ => ?_)
  · exact nl_X12_aHouse_b81 _ _ _ _ js7
  · refine pq_b (ft_X12_number _ _ _ _) (fun _ s20 gs20 => ?_)
    have js20 := nl_t js7 gs20 rfl
    refine pq_if (fun _ => ?_) (fun _ => ?_)
    · exact pq_s js20
    · exact nl_X12_aHouse_b81 _ _ _ _ js20
theorem nl_X12_aHouse_b52 {n0 : Sg} (v1 : Int32) (v2 : Int32) (s : Sg) (hJ : NLp n0 s) : PQ (f_X12_aHouse_b52 v1 v2 s) (fun _ s9 => NLp n0 s9) := by
  unfold f_X12_aHouse_b52
  exact nl_X12_aHouse_b57 _ _ _ _ hJ
theorem nl_X12_aHouse  {n0 s : Sg} (hC : CntN s) (hJ : NLp n0 s) : PQ (f_X12_aHouse  s) (fun _ s9 => NLp n0 s9) := by
  unfold f_X12_aHouse
  refine pq_n (fun x1 _ => ?_)
  refine pq_b (nl_new _ _ _ hC (by decide) hJ) (fun _ s3 gs3 => ?_)
  refine pq_if (fun _ => ?_) (fun _ => ?_)
  · exact pq_s gs3
  · refine pq_b (ft_X12_inWords_1001  _) (fun _ s5 gs5 => ?_)
    have js5 := nl_t gs3 gs5 rfl
    refine pq_if (fun _ => ?_) (fun _ => ?_)
    · exact nl_X12_aHouse_b52 _ _ _ js5
    · refine pq_b (ft_X12_inWords_1001  _) (fun _ s22 gs22 => ?_)
      have js22 := nl_t js5 gs22 rfl
      refine pq_if (fun _ => ?_) (fun _ => ?_)
      · exact nl_X12_aHouse_b52 _ _ _ js22
      · exact nl_X12_aHouse_b57 _ _ _ _ js22

theorem nl_X12_aQuarrel  {n0 s : Sg} (hC : CntN s) (hJ : NLp n0 s) : PQ (f_X12_aQuarrel  s) (fun _ s9 => NLp n0 s9) := by
  unfold f_X12_aQuarrel
  refine pq_n (fun x1 _ => ?_)
  refine pq_b (nl_new _ _ _ hC (by decide) hJ) (fun _ s3 gs3 => ?_)
  refine pq_if (fun _ => ?_) (fun _ => ?_)
  · exact pq_s gs3
  · refine pq_b (ft_X12_wantWord_1001 _ _) (fun _ s5 gs5 => ?_)
    have js5 := nl_t gs3 gs5 rfl
    refine pq_if (fun _ => ?_) (fun _ => ?_)
    · exact pq_s js5
    · refine pq_b (ft_X12_twoHouses _ _ _ _) (fun _ s7 gs7 => ?_)
      have js7 := nl_t js5 gs7 rfl
      refine pq_if (fun _ => ?_) (fun _ => ?_)
      · exact pq_s js7
      · refine pq_b (ft_X12_wantWord_1001 _ _) (fun _ s9 gs9 => ?_)
        have js9 := nl_t js7 gs9 rfl
        refine pq_if (fun _ => ?_) (fun _ => ?_)
        · exact pq_s js9
        · refine pq_b (ft_X12_number _ _ _ _) (fun _ s11 gs11 => ?_)
          have js11 := nl_t js9 gs11 rfl
          refine pq_if (fun _ => ?_) (fun _ => ?_)
          · exact pq_s js11
          · refine pq_n (fun s12 es12 => ?_)
            have js12 : NLp n0 s12 := by rw [es12]; exact (nl_i js11 1 rfl rfl)
            exact pq_s js12

theorem nl_X12_aCat  {n0 s : Sg} (hC : CntN s) (hJ : NLp n0 s) : PQ (f_X12_aCat  s) (fun _ s9 => NLp n0 s9) := by
  unfold f_X12_aCat
  refine pq_n (fun x1 _ => ?_)
  refine pq_b (nl_new _ _ _ hC (by decide) hJ) (fun _ s3 gs3 => ?_)
  refine pq_if (fun _ => ?_) (fun _ => ?_)
  · exact pq_s gs3
  · refine pq_b (ft_X12_wantWord_1001 _ _) (fun _ s5 gs5 => ?_)
    have js5 := nl_t gs3 gs5 rfl
    refine pq_if (fun _ => ?_) (fun _ => ?_)
    · exact pq_s js5
    · refine pq_b (ft_X12_twoHouses _ _ _ _) (fun _ s7 gs7 => ?_)
      have js7 := nl_t js5 gs7 rfl
      refine pq_if (fun _ => ?_) (fun _ => ?_)
      · exact pq_s js7
      · refine pq_b (ft_X12_wantWord_1001 _ _) (fun _ s9 gs9 => ?_)
        have js9 := nl_t js7 gs9 rfl
        refine pq_if (fun _ => ?_) (fun _ => ?_)
        · exact pq_s js9
        · refine pq_b (ft_X12_number _ _ _ _) (fun _ s11 gs11 => ?_)
          have js11 := nl_t js9 gs11 rfl
          refine pq_if (fun _ => ?_) (fun _ => ?_)
          · exact pq_s js11
          · refine pq_n (fun s12 es12 => ?_)
            have js12 : NLp n0 s12 := by rw [es12]; exact (nl_i js11 1 rfl rfl)
            exact pq_s js12

theorem nl_X12_aGrocer_b101 {n0 : Sg}  (s : Sg) (hJ : NLp n0 s) : PQ (f_X12_aGrocer_b101  s) (fun _ s9 => NLp n0 s9) := by
  unfold f_X12_aGrocer_b101
  exact pq_s (nl_i hJ 1 rfl rfl)
theorem nl_X12_aGrocer  {n0 s : Sg} (hC : CntN s) (hJ : NLp n0 s) : PQ (f_X12_aGrocer  s) (fun _ s9 => NLp n0 s9) := by
  unfold f_X12_aGrocer
  refine pq_n (fun x1 _ => ?_)
  refine pq_b (nl_new _ _ _ hC (by decide) hJ) (fun _ s3 gs3 => ?_)
  refine pq_if (fun _ => ?_) (fun _ => ?_)
  · exact pq_s gs3
  · refine pq_b (ft_X12_wantWord_1001 _ _) (fun _ s5 gs5 => ?_)
    have js5 := nl_t gs3 gs5 rfl
    refine pq_if (fun _ => ?_) (fun _ => ?_)
    · exact pq_s js5
    · refine pq_b (ft_X12_number _ _ _ _) (fun _ s7 gs7 => ?_)
      have js7 := nl_t js5 gs7 rfl
      refine pq_if (fun _ => ?_) (fun _ => ?_)
      · exact pq_s js7
      · refine pq_b (ft_X12_wantWord_1001 _ _) (fun _ s9 gs9 => ?_)
        have js9 := nl_t js7 gs9 rfl
        refine pq_if (fun _ => ?_) (fun _ => ?_)
        · exact pq_s js9
        · refine pq_b (ft_X12_number _ _ _ _) (fun _ s11 gs11 => ?_)
          have js11 := nl_t js9 gs11 rfl
          refine pq_if (fun _ => ?_) (fun _ => ?_)
          · exact pq_s js11
          · refine pq_b (ft_X12_isThere _ _) (fun _ s13 gs13 => ?_)
            have js13 := nl_t js11 gs13 rfl
            refine pq_if (fun _ => ?_) (fun _ => ?_)
            · exact nl_X12_aGrocer_b101  _ js13
            · refine pq_b (ft_X12_number _ _ _ _) (fun _ s15 gs15 => ?_)
              have js15 := nl_t js13 gs15 rfl
              refine pq_if (fun _ => ?_) (fun _ => ?_)
              · exact pq_s js15
              · exact nl_X12_aGrocer_b101  _ js15

theorem nl_X12_streetPart_b102 {n0 : Sg} (v1 : Int32) (s : Sg) (hJ : NLp n0 s) : PQ (f_X12_streetPart_b102 v1 s) (fun _ s9 => NLp n0 s9) := by
  unfold f_X12_streetPart_b102
  refine pq_if (fun _ => ?_) (fun _ => ?_)
  · exact pq_s hJ
  · refine pq_b (ft_X12_wantSign _ _) (fun _ s6 gs6 => ?_)
    have js6 := nl_t hJ gs6 rfl
    refine pq_if (fun _ => ?_) (fun _ => ?_)
    · exact pq_s js6
    · exact pq_s js6

theorem th_X6_takeText_b21 (n : Nat) : ∀ (v1 : Int32) (v2 : Int32) (s : Sg), T54 s → PQ (f_X6_takeText_b21 n v1 v2 s) (fun _ s9 => T54 s9) := by
  induction n with
  | zero => intro v1 v2 s _ r s9 e; cases e
  | succ n ih =>
    intro v1 v2 s hJ
    unfold f_X6_takeText_b21
    refine pq_if (fun _ => ?_) (fun _ => ?_)
    · refine pq_c (fun _ => ?_)
      exact pq_s hJ
    · refine pq_if (fun _ => ?_) (fun _ => ?_)
      · refine pq_c (fun _ => ?_)
        exact pq_s hJ
      · refine pq_if (fun _ => ?_) (fun _ => ?_)
        · refine pq_c (fun _ => ?_)
          exact pq_s hJ
        · refine pq_if (fun _ => ?_) (fun _ => ?_)
          · refine pq_b (ft_X6_takeHouse  _) (fun _ s4 gs4 => ?_)
            have js4 := th_t hJ gs4 rfl
            exact ih _ _ _ js4
          · refine pq_if (fun _ => ?_) (fun _ => ?_)
            · refine pq_b (ft_X7_wrong _ _) (fun _ s6 gs6 => ?_)
              have js6 := th_t hJ gs6 rfl
              exact ih _ _ _ js6
            · refine pq_if (fun _ => ?_) (fun _ => ?_)
              · refine pq_b (ft_X7_wrong _ _) (fun _ s8 gs8 => ?_)
                have js8 := th_t hJ gs8 rfl
                exact ih _ _ _ js8
              · refine pq_if (fun _ => ?_) (fun _ => ?_)
                · refine pq_b (ft_X6_takeCounts  _) (fun _ s10 gs10 => ?_)
                  have js10 := th_t hJ gs10 rfl
                  exact ih _ _ _ js10
                · refine pq_if (fun _ => ?_) (fun _ => ?_)
                  · refine pq_b (ft_X6_takeQuarrel  _) (fun _ s12 gs12 => ?_)
                    have js12 := th_t hJ gs12 rfl
                    exact ih _ _ _ js12
                  · refine pq_if (fun _ => ?_) (fun _ => ?_)
                    · refine pq_b (ft_X7_wrong _ _) (fun _ s14 gs14 => ?_)
                      have js14 := th_t hJ gs14 rfl
                      exact ih _ _ _ js14
                    · refine pq_if (fun _ => ?_) (fun _ => ?_)
                      · refine pq_b (ft_X7_wrong _ _) (fun _ s16 gs16 => ?_)
                        have js16 := th_t hJ gs16 rfl
                        exact ih _ _ _ js16
                      · refine pq_if (fun _ => ?_) (fun _ => ?_)
                        · refine pq_b (ft_X7_wrong _ _) (fun _ s18 gs18 => ?_)
                          have js18 := th_t hJ gs18 rfl
                          exact ih _ _ _ js18
                        · refine pq_if (fun _ => ?_) (fun _ => ?_)
                          · refine pq_b (ft_X6_takeCat  _) (fun _ s20 gs20 => ?_)
                            have js20 := th_t hJ gs20 rfl
                            exact ih _ _ _ js20
                          · refine pq_if (fun _ => ?_) (fun _ => ?_)
                            · refine pq_b (ft_X7_wrong _ _) (fun _ s22 gs22 => ?_)
                              have js22 := th_t hJ gs22 rfl
                              exact ih _ _ _ js22
                            · refine pq_if (fun _ => ?_) (fun _ => ?_)
                              · refine pq_b (ft_X7_wrong _ _) (fun _ s24 gs24 => ?_)
                                have js24 := th_t hJ gs24 rfl
                                exact ih _ _ _ js24
                              · refine pq_if (fun _ => ?_) (fun _ => ?_)
                                · refine pq_b (ft_X7_wrong _ _) (fun _ s26 gs26 => ?_)
                                  have js26 := th_t hJ gs26 rfl
                                  exact ih _ _ _ js26
                                · refine pq_if (fun _ => ?_) (fun _ => ?_)
                                  · refine pq_b (ft_X6_takeGrocer  _) (fun _ s28 gs28 => ?_)
                                    have js28 := th_t hJ gs28 rfl
                                    exact ih _ _ _ js28
                                  · refine pq_if (fun _ => ?_) (fun _ => ?_)
                                    · refine pq_b (ft_X7_wrong _ _) (fun _ s30 gs30 => ?_)
                                      have js30 := th_t hJ gs30 rfl
                                      exact ih _ _ _ js30
                                    · refine pq_if (fun _ => ?_) (fun _ => ?_)
                                      · refine pq_b (ft_X7_wrong _ _) (fun _ s32 gs32 => ?_)
                                        have js32 := th_t hJ gs32 rfl
                                        exact ih _ _ _ js32
                                      · refine pq_if (fun _ => ?_) (fun _ => ?_)
                                        · refine pq_b (ft_X7_wrong _ _) (fun _ s34 gs34 => ?_)
                                          have js34 := th_t hJ gs34 rfl
                                          exact ih _ _ _ js34
                                        · refine pq_if (fun _ => ?_) (fun _ => ?_)
                                          · refine pq_b (ft_X6_takeWashes  _) (fun _ s36 gs36 => ?_)
                                            have js36 := th_t hJ gs36 rfl
                                            exact ih _ _ _ js36
                                          · refine pq_b (ft_X7_wrong _ _) (fun _ s38 gs38 => ?_)
                                            have js38 := th_t hJ gs38 rfl
                                            exact ih _ _ _ js38

theorem nl_part {n0 s : Sg} (hC : CntN s) (hJ : NLp n0 s) : PQ (f_X12_streetPart s) (fun _ s9 => NLp n0 s9) := by
  unfold f_X12_streetPart
  refine pq_b (iw_k s) (fun r1 s2 g => ?_)
  subst g
  have b : ∀ (o : Option (Int32 × Sg)), PQ o (fun _ s9 => NLp n0 s9) → PQ (bd o (fun r s => f_X12_streetPart_b102 r s)) (fun _ s9 => NLp n0 s9) := fun o ho => pq_b ho (fun r s4 w => nl_X12_streetPart_b102 r s4 w)
  have o : ∀ a : Int32, PQ (f_X12_once a s2) (fun _ s9 => NLp n0 s9) := fun a => pq_w (ft_X12_once a s2) (fun _ s9 g => nl_t hJ g rfl)
  exact pq_if (fun _ => b _ (nl_X12_aHouse hC hJ)) (fun _ => pq_if (fun _ => b _ (nl_X12_aQuarrel hC hJ)) (fun _ => pq_if (fun _ => b _ (nl_X12_aCat hC hJ)) (fun _ => pq_if (fun _ => b _ (nl_X12_aGrocer hC hJ)) (fun _ => pq_if (fun _ => b _ (o 17)) (fun _ => pq_if (fun _ => b _ (o 18)) (fun _ => pq_b (ft_X12_fails 2 s2) (fun _ s9 g => pq_c (fun _ => pq_s (nl_t hJ g rfl)))))))))
theorem cnt_n {s : Sg} (hR : Rg rM s) : CntN s := fun q hq => rd_cnt (L := 0) (j_refl hR) (1920 + q) (by omega)
theorem j_19 {L : Nat} {s s9 : Sg} (J : JM L s s9) (hb : L &&& 1267650609671809445731386785794 = 0) (h101 : L.testBit 101 = false) (p : Nat) (hp : p < 1920) : s9.1 1 p = s.1 1 p := by
  by_cases d : p < 480
  · exact j_lo J hb p d
  · have e : cdM 1 p = 101 := by
      rw [cdM_x, if_neg (by omega), if_neg (by omega), if_neg (by omega), if_pos (by omega)]
    exact (J.2 1 p (by rw [e]; exact h101)).1
/-- the street in use, the marks: kept, or the call's status is 0 -/
def KpM0 (s s9 : Sg) : Prop := s9.1 0 2 = 0 ∨ ((∀ p, p < 1920 → s9.1 1 p = s.1 1 p) ∧ NLp s s9)
theorem kp_31 (m : Nat) : ∀ (v2 : Int32) (s : Sg), Rg rM s → PQ (f_X12_street_b31 m v2 s) (fun _ s9 => KpM0 s s9) := by
  induction m with
  | zero => intro v2 s _ r s' e; cases e
  | succ m ih =>
    intro v2 s hR
    have fin : PQ (f_X12_street_b50 s) (fun _ s9 => KpM0 s s9) := by
      by_cases hz : s.1 0 18 = 0
      · refine pq_w (swx_50y s hz) (fun r s9 g => Or.inl ?_)
        obtain ⟨s', -, -, e⟩ := g
        rw [e, q_eq]
      · unfold f_X12_street_b50
        rw [if_neg hz]
        refine pq_b (taken_p _ s) (fun r s9 g => pq_s (Or.inr ?_))
        rcases g with g | g
        · rw [g.2.2]
          exact ⟨fun _ _ => rfl, fun _ _ => rfl⟩
        · rw [g.2.2]
          exact ⟨fun _ _ => rfl, fun _ _ => rfl⟩
    unfold f_X12_street_b31
    refine pq_if (fun _ => fin) (fun _ => pq_if (fun _ => fin) (fun _ => ?_))
    refine pq_b (pq_and (pq_o (h_X12_streetPart hR)) (nl_part (cnt_n hR) (n0 := s) (fun _ _ => rfl))) (fun r s2 g => ?_)
    refine pq_w (ih r s2 g.1.1.1) (fun _ s9 w => w.elim Or.inl (fun w => Or.inr ⟨fun p hp => ?_, fun p hp => ?_⟩))
    · rw [w.1 p hp]
      exact j_19 g.1.1 (by decide) rfl p hp
    · rw [w.2 p hp]
      exact g.2 p hp
set_option maxRecDepth 20000 in
theorem kp_street (a1 : Int32) {s : Sg} (hR : Rg rM s) : PQ (f_X12_street a1 s) (fun _ s9 => KpM0 s s9) := by
  unfold f_X12_street
  refine pq_b (pq_and (pq_o (h_X12_begins a1 900 hR (by decide))) (ft_X12_begins a1 900 s)) (fun r s2 g => ?_)
  have q2 : s2.1 1 = s.1 1 := j_c1 g.1.1 (by decide)
  have n2 : s2.2 2 = s.2 2 := funext fun k => fr_e2 g.2 2 k 2 rfl rfl
  refine pq_if (fun _ => ?_) (fun _ => ?_)
  · have w : PQ (some ((-1 : Int32), pI s2 0 2 1)) (fun _ s9 => KpM0 s s9) := pq_s (Or.inr ⟨fun p _ => by rw [q_nc rfl, q2], fun p _ => by show s2.2 2 p = _; rw [n2]⟩)
    exact w
  · refine pq_b (pq_and (pq_o (h_X12_plain 1920 g.1.1.1 (by decide))) (pln_p s2)) (fun _ s6 g6 => ?_)
    have R6 : Rg rM (pI s6 0 20 0) := (show JM 1099511627776 s6 (pI s6 0 20 0) from j_wr 0 3 (j_refl g6.1.1.1) rfl 40 rfl rfl (by decide)).1
    refine pq_w (kp_31 BIG 1 (pI s6 0 20 0) R6) (fun _ s9 w => w.elim Or.inl (fun w => Or.inr ⟨fun p hp => ?_, fun p hp => ?_⟩))
    · rw [w.1 p hp, q_nc rfl, g6.2.2.1 p (by omega), q2]
    · rw [w.2 p hp]
      show s6.2 2 p = _
      rw [g6.2.2.2.2, n2]
abbrev MW24 : Nat := 2251799796908032
theorem fr_w {L : Nat} {s s' : Sg} (f : Fr cC L s s') (hL : L &&& MW24 = 0) (c : Nat) (h : 24 ≤ c ∧ c ≤ 50) : s'.1 c = s.1 c ∧ s'.2 c = s.2 c := by
  have q : ∀ c, c < 51 → 24 ≤ c → MW24.testBit c = true := by decide
  have b : L.testBit c = false := by
    have e : (L &&& MW24).testBit c = false := by rw [hL]; exact Nat.zero_testBit _
    rw [Nat.testBit_and, q c (by omega) (by omega), Bool.and_true] at e
    exact e
  have cd : ∀ k, cC c k = c := fun k => by
    unfold cC
    rw [if_neg (by omega), if_neg (by omega), if_neg (by omega), if_neg (by omega), if_neg (by omega)]
  exact ⟨funext fun k => (f c k (by rw [cd]; exact b)).1, funext fun k => (f c k (by rw [cd]; exact b)).2⟩
/-- the class's street in use: kept, or the call's status is 0 -/
def KpC0 (s s9 : Sg) : Prop := s9.1 0 15 = 0 ∨ ∀ c, (24 ≤ c ∧ c ≤ 50) → s9.1 c = s.1 c ∧ s9.2 c = s.2 c
theorem kc_street (a1 : Int32) (s : Sg) : PQ (f_X11_street a1 s) (fun _ s9 => KpC0 s s9) := by
  unfold f_X11_street
  refine pq_b (wi_p a1 0 (s.1 0 13) s) (fun r1 s2 g => ?_)
  obtain ⟨es, -⟩ := g
  subst es
  have rf : ∀ (w : Int32) (u : Sg), (∀ c, (24 ≤ c ∧ c ≤ 50) → u.1 c = s2.1 c ∧ u.2 c = s2.2 c) → PQ (bd (f_X11_refuse w u) (fun r s => some (r, s))) (fun _ s9 => KpC0 s2 s9) := fun w u hu => by
    have q : PQ (some ((-1 : Int32), pI u 0 15 w)) (fun _ s9 => KpC0 s2 s9) := pq_s (Or.inr (fun c hc => ⟨by rw [pI_o _ _ _ _ _ (by omega)]; exact (hu c hc).1, (hu c hc).2⟩))
    exact q
  refine pq_if (fun _ => rf 1 s2 (fun _ _ => ⟨rfl, rfl⟩)) (fun _ => pq_b (ft_X7_begin a1 s2) (fun _ s6 f6 => pq_b (ft_X6_takeText s6) (fun r7 s8 f8 => pq_b (ct_x s8) (fun _ s10 e10 => pq_if (fun _ => rf 9 s10 (fun c hc => ?_)) (fun _ => pq_b pq_tr (fun _ s14 _ => ?_))))))
  · have a := fr_w f6 (by decide) c hc
    have b := fr_w f8 (by decide) c hc
    constructor
    · rw [e10, pI_o _ _ _ _ _ (by omega), pI_o _ _ _ _ _ (by omega), pI_o _ _ _ _ _ (by omega), b.1, a.1]
    · rw [e10]
      show s8.2 c = _
      rw [b.2, a.2]
  · have q : PQ (some (s14.1 25 14, pI s14 0 15 0)) (fun _ s9 => KpC0 s2 s9) := pq_s (Or.inl q_eq)
    exact q
theorem th_street (a1 : Int32) (s : Sg) : PQ (f_X11_street a1 s) (fun _ s9 => s9.1 0 15 = 0 → s9.1 27 6 = 0) := by
  unfold f_X11_street
  refine pq_b (wi_p a1 0 (s.1 0 13) s) (fun r1 s2 g => ?_)
  have rf : ∀ (w : Int32) (u : Sg), ¬ w = 0 → PQ (bd (f_X11_refuse w u) (fun r s => some (r, s))) (fun _ s9 => s9.1 0 15 = 0 → s9.1 27 6 = 0) := fun w u hw => by
    have q : PQ (some ((-1 : Int32), pI u 0 15 w)) (fun _ s9 => s9.1 0 15 = 0 → s9.1 27 6 = 0) := pq_s (fun z => absurd z (by rw [q_eq]; exact hw))
    exact q
  refine pq_if (fun _ => rf 1 s2 (by decide)) (fun _ => pq_b (ft_X7_begin a1 s2) (fun _ s6 f6 => pq_b (P := fun _ s8 => s8.1 54 6 = 0) ?_ (fun r7 s8 z8 => pq_b (ct_x s8) (fun _ s10 e10 => pq_if (fun _ => rf 9 s10 (by decide)) (fun _ => pq_b (cw_X10_copyFrom_51 s10) (fun _ s14 w => ?_))))))
  · unfold f_X6_takeText
    refine pq_b (clr_51 s6) (fun _ s2 c => th_X6_takeText_b21 BIG 1 0 _ ?_)
    unfold T54
    rw [q_nc rfl, q_nc rfl]
    exact c.2.2.1.1
  · have q : PQ (some (s14.1 25 14, pI s14 0 15 0)) (fun _ s9 => s9.1 0 15 = 0 → s9.1 27 6 = 0) := pq_s (fun _ => by
      rw [q_nc rfl]
      have a : s14.1 27 6 = s10.1 54 6 := w.2.1 3 6 (by decide) (by decide) (by decide) (by decide)
      rw [a, e10, q_nc rfl, q_nc rfl, q_nc rfl]
      exact z8)
    exact q
