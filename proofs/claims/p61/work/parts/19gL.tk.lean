/-! texts: a cat is counted -/
abbrev LTK : Nat := 51422017416287688817342786954917203280710514247793444439195648
theorem ct_done {n : Nat} {x : Int32} {sC sM s t s' : Sg} {lo hi : Int} (h : WkT n 2 x sC sM) (hE : CtE x sC sM) (w : NuT n lo hi (1920 + (82 + 3 * x.toNatClampNeg)) sC sM s t) (hj : s' = pI s 64 x.toNatClampNeg (s.1 7 7)) : SR n (pI s' 52 15 ((s'.1 52 15) + 1)) (pI t 1 1922 ((t.1 1 1922) + 1)) := by
  obtain ⟨h1, h2, h3, h4, h5, h6⟩ := h
  obtain ⟨w1, w2, w3, w4, w5, w6⟩ := w
  obtain ⟨⟨k1, k2, k3, k4, k5, k6, k7, k8, k9, k10, k11, k12⟩, k13, k14, k15, k16, k17, k18, k19, k20⟩ := kc_of w2
  obtain ⟨⟨E1, E2⟩, E3, E4, E5⟩ := hE
  have cl := cl_nat x
  have x4 : x.toInt < 4 := h6.2.2 (by decide)
  have e1 : (1 : Int32).toInt = 1 := rfl
  -- the class's cells
  have cf : ∀ c, ¬ c = 52 → ¬ c = 64 → (pI s' 52 15 ((s'.1 52 15) + 1)).1 c = s.1 c := fun c z1 z2 => funext fun k => by
    rw [pI_1, if_neg (fun y => z1 y.1), hj, pI_1, if_neg (fun y => z2 y.1)]
  have e2 : (pI s' 52 15 ((s'.1 52 15) + 1)).2 = s.2 := by rw [hj]; rfl
  have c52 : ∀ k, ¬ k = 15 → (pI s' 52 15 ((s'.1 52 15) + 1)).1 52 k = sC.1 52 k := fun k hk => by
    rw [pI_1, if_neg (fun y => hk y.2), hj, q_nc rfl, k1]
  have c15 : (pI s' 52 15 ((s'.1 52 15) + 1)).1 52 15 = sC.1 52 15 + 1 := by
    rw [q_eq, hj, q_nc rfl, k1]
  have c64 : ∀ k, (pI s' 52 15 ((s'.1 52 15) + 1)).1 64 k = if k = x.toNatClampNeg then s.1 7 7 else sC.1 64 k := fun k => by
    rw [q_nc rfl, hj, pI_1]
    by_cases z : k = x.toNatClampNeg
    · rw [if_pos ⟨rfl, z⟩, if_pos z]
    · rw [if_neg (fun y => z y.2), if_neg z, k12]
  -- the reference's cells
  have hM1 : (sM.1 1 1922).toInt = x.toInt := by rw [show sM.1 1 1922 = x from h5]
  have m21 : t.1 1 1922 = x := by rw [w6, if_neg (by omega)]; exact h5
  have eM : ∀ k, ¬ k = 2 → ¬ k = 82 + 3 * x.toNatClampNeg → mN (pI t 1 1922 ((t.1 1 1922) + 1)) k = mN sM k := fun k z1 z2 => by
    unfold mN
    rw [pI_1, if_neg (fun y => z1 (by have := y.2; omega)), w6, if_neg (by omega)]
  have mM1 : mN (pI t 1 1922 ((t.1 1 1922) + 1)) 2 = x + 1 := by
    show (pI t 1 1922 ((t.1 1 1922) + 1)).1 1 1922 = _
    rw [q_eq, m21]
  have m42 : mN (pI t 1 1922 ((t.1 1 1922) + 1)) (82 + 3 * x.toNatClampNeg) = s.1 7 7 := by
    unfold mN
    rw [pI_1, if_neg (fun y => by have := y.2; omega), w6, if_pos rfl]
  have ax : (x + 1).toInt = x.toInt + 1 := i_addx x 1 (show -2147483648 ≤ x.toInt + 1 ∧ x.toInt + 1 ≤ 2147483647 from by omega)
  have tk : TkRel n (pI s' 52 15 ((s'.1 52 15) + 1)) (pI t 1 1922 ((t.1 1 1922) + 1)) := by
    refine tk_f (L1 := LTK) (L2 := 2 ^ 1) w1 ?_ (fr_x 1 rfl) rfl (m_and rfl)
    rw [hj]
    exact fr_i (fr_i fr_r 64 rfl rfl) 205 rfl rfl
  refine ⟨⟨tk, ?_, ?_⟩, ?_, ?_, ?_⟩
  · rw [q_nc rfl, fr_e w3 0 18 38 rfl rfl]; exact h1.2.1
  · unfold ToldS
    rw [cf 8 (by decide) (by decide), k20, q_nc rfl, fr_e w3 0 20 40 rfl rfl]
    exact h1.2.2
  · obtain ⟨⟨a1, a2, a3, a4⟩, ⟨d0, d1, d2, d3⟩, ⟨c5, c6, c7⟩, cq, cA, cc, cg⟩ := h3
    have g1 : mN sM 2 = x := h5
    have g0 : mN sM 0 = sM.1 1 1920 := rfl
    rw [g1] at cc a3 d2
    unfold PlanS PlanA
    rw [cf 58 (by decide) (by decide), k6, cf 59 (by decide) (by decide), k7, cf 60 (by decide) (by decide), k8, cf 61 (by decide) (by decide), k9, cf 62 (by decide) (by decide), k10, cf 63 (by decide) (by decide), k11, cf 65 (by decide) (by decide), k13, cf 66 (by decide) (by decide), k14, c52 13 (by decide), c52 14 (by decide), c52 16 (by decide), c52 17 (by decide), c52 18 (by decide), c52 19 (by decide), c15, mM1, eM 0 (by decide) (by omega), eM 1 (by decide) (by omega), eM 3 (by decide) (by omega), eM 9 (by decide) (by omega), eM 13 (by decide) (by omega), eM 14 (by decide) (by omega)]
    refine ⟨⟨a1, a2, by rw [a3], a4⟩, ⟨d0, d1, by omega, d3⟩, ⟨c5, c6, c7⟩, fun q hq => ?_, cA, fun c hc => ?_, fun g hg => ?_⟩
    · have z := cq q hq
      rw [eM _ (by omega) (by omega), eM _ (by omega) (by omega), eM _ (by omega) (by omega)]
      exact z
    · by_cases z : c = x.toNatClampNeg
      · rw [z, eM _ (by omega) (by omega), eM _ (by omega) (by omega), c64, if_pos rfl, m42]
        refine ⟨⟨?_, ?_, rfl⟩, E3, E4, E5⟩
        · show _ = sM.1 1 (1920 + (80 + 3 * x.toNatClampNeg))
          rw [E1]
          exact congrArg (sM.1 1) (by omega)
        · show _ = sM.1 1 (1920 + (81 + 3 * x.toNatClampNeg))
          rw [E2]
          exact congrArg (sM.1 1) (by omega)
      · rw [eM _ (by omega) (by omega), eM _ (by omega) (by omega), eM _ (by omega) (by omega), c64, if_neg z]
        exact cc c (by omega)
    · rw [eM _ (by omega) (by omega), eM _ (by omega) (by omega)]
      exact cg g hg
  · unfold GrS
    rw [cf 67 (by decide) (by decide), k15, cf 68 (by decide) (by decide), k16, cf 69 (by decide) (by decide), k17, cf 70 (by decide) (by decide), k18, cf 71 (by decide) (by decide), k19, cf 53 (by decide) (by decide), k2]
    exact gr_x h4 (fun h hh => ⟨by rw [eM _ (by omega) (by omega)]; exact (h4.1 h hh).1, by rw [eM _ (by omega) (by omega)]; exact (h4.1 h hh).2.1, rfl, eM _ (by omega) (by omega)⟩) (fun g hg => by rw [eM _ (by omega) (by omega)]; exact h4.2.1 g hg) (fun q hq => ⟨rfl, eM _ (by omega) (by omega), eM _ (by omega) (by omega)⟩) (fun _ _ _ => rfl) (fun k k1 k2 k3 => eM k (by omega) (by omega)) ⟨eM 3 (by decide) (by omega), fun g _ _ => eM _ (by omega) (by omega)⟩
  · have hb : ∀ x, x < 4 → cnN sM x ≤ 8 ∧ (2 ≤ x → cnN sM x ≤ 4) := by
      have b := h3.2.1
      have d0 : mN sM 0 = sM.1 1 1920 := rfl
      have d1 : mN sM 1 = sM.1 1 1921 := rfl
      have d2 : mN sM 2 = sM.1 1 1922 := rfl
      have d3 : mN sM 3 = sM.1 1 1923 := rfl
      rw [d0, d1, d2, d3] at b
      refine u4 ?_ ?_ ?_ ?_
      · show (sM.1 1 1920).toInt.toNat ≤ 8 ∧ (2 ≤ 0 → (sM.1 1 1920).toInt.toNat ≤ 4)
        omega
      · show (sM.1 1 1921).toInt.toNat ≤ 8 ∧ (2 ≤ 1 → (sM.1 1 1921).toInt.toNat ≤ 4)
        omega
      · show (sM.1 1 1922).toInt.toNat ≤ 8 ∧ (2 ≤ 2 → (sM.1 1 1922).toInt.toNat ≤ 4)
        omega
      · show (sM.1 1 1923).toInt.toNat ≤ 8 ∧ (2 ≤ 3 → (sM.1 1 1923).toInt.toNat ≤ 4)
        omega
    have c1 : cnN (pI t 1 1922 ((t.1 1 1922) + 1)) 2 = cnN sM 2 + 1 := by
      show ((pI t 1 1922 ((t.1 1 1922) + 1)).1 1 1922).toInt.toNat = (sM.1 1 1922).toInt.toNat + 1
      rw [q_eq, m21]
      omega
    have c2 : ∀ z, ¬ z = 2 → cnN (pI t 1 1922 ((t.1 1 1922) + 1)) z = cnN sM z := fun z hz => by
      unfold cnN
      by_cases y : z < 4
      · rw [if_pos y, if_pos y, pI_1, if_neg (fun v => hz (by have := v.2; omega)), w6, if_neg (by omega)]
      · rw [if_neg y, if_neg y]
    have d := nm_done (q := 2) (by decide) (mM := fun _ => 0) h2 hb ⟨c1, c2⟩
    have nn : nmN (pI t 1 1922 ((t.1 1 1922) + 1)) = nmN sM := by
      unfold nmN
      have : (pI t 1 1922 ((t.1 1 1922) + 1)).2 2 = sM.2 2 := funext fun k => fr_e2 w3 2 k 2 rfl rfl
      rw [this]
    unfold NmS
    rw [nn, cf 56 (by decide) (by decide), k4, cf 57 (by decide) (by decide), k5, c52 12 (by decide), e2, k3]
    exact d
theorem cte_st {n : Nat} {x : Int32} {sC sM s t : Sg} (w : StT n sC sM s t) (h : CtE x sC sM) : CtE x s t := by
  obtain ⟨⟨⟨y1, y2, y3, y4, y5, y6, y7, y8, y9, y10, y11, y12⟩, y13, y14, y15, y16, y17, y18, y19, y20⟩, y21, y22, y23, y24⟩ := kp_of w
  unfold CtE
  rw [y10, y11, y21]
  exact h
theorem cat_r {n : Nat} {sC sM : Sg} (h : SR n sC sM) : RQ (f_X6_takeCat sC) (bd (f_X12_aCat sM) (fun r s => f_X12_streetPart_b102 r s)) (Og (PaT n sC sM)) := by
  obtain ⟨h1, h2, h3, h4⟩ := h
  have hcnt : sC.1 52 15 = sM.1 1 1922 := h2.1.2.2.1
  have q0 := tk_pos h1.1
  unfold f_X6_takeCat f_X12_aCat
  rw [hcnt]
  refine rm_n (fun x1 ex1 => rm_b (rq_b2 (new_r (q := 2) h1 h2 h3 h4 (by decide) 108 4 2 16 rfl rfl rfl rfl) (fun r s r' t g => og_k sg_K0 g (fun g => ?_))))
  have wk := wk_of (by decide) g
  have g5 := g.2.2.2.2.1
  have hx := wk.2.2.2.2.2
  have wk : WkT n 2 (sM.1 1 1922) s t := wk
  have hx : 0 ≤ (sM.1 1 1922).toInt ∧ (sM.1 1 1922).toInt < 4 := ⟨hx.1, hx.2.2 (by decide)⟩
  generalize sM.1 1 1922 = x at wk hx ex1 ⊢
  have cl := cl_nat x
  have e5 : (3 : Int32).toInt = 3 := rfl
  have e2 : (2 : Int32).toInt = 2 := rfl
  have e2000 : (2000 : Int32).toInt = 2000 := rfl
  have mx : (3 * x).toInt = 3 * x.toInt := i_mulx 3 x (show -2147483648 ≤ 3 * x.toInt ∧ 3 * x.toInt ≤ 2147483647 from by omega)
  have ax : x1.toInt = 2000 + 3 * x.toInt := by
    rw [ex1]
    have := i_addx 2000 (3 * x) (show -2147483648 ≤ 2000 + (3 * x).toInt ∧ 2000 + (3 * x).toInt ≤ 2147483647 from by omega)
    omega
  have ax2 : (x1 + 2).toInt = x1.toInt + 2 := i_addx x1 2 (show -2147483648 ≤ x1.toInt + 2 ∧ x1.toInt + 2 ≤ 2147483647 from by omega)
  have clx2 := cl_nat (x1 + 2)
  have dx2 : (x1 + 2).toNatClampNeg = 1920 + (82 + 3 * x.toNatClampNeg) := by omega
  refine rm_b (rq_b2 (pass_w wk.1.1 wk.1.2.1 109 11 9 (by decide) rfl rfl) (fun u s4 u' t5 w => og_k sg_K0 w (fun w => ?_)))
  have wk4 := wk_st w wk
  have q1 := tk_pos wk.1.1
  have q2 := w.2.2.2
  unfold f_X12_twoHouses
  refine cends_r wk4 (p0 := (sC.1 7 2).toInt) (by omega) ax sg_K0 _ _ (fun sa ta ha pa Ea => ?_) BIG
  refine rm_b (rq_b2 (pass_w ha.1.1 ha.1.2.1 111 13 11 (by decide) rfl rfl) (fun u sb u' tb w2 => og_k sg_K0 w2 (fun w2 => ?_)))
  have hb := wk_st w2 ha
  have Eb := cte_st w2 Ea
  have q3 := tk_pos ha.1.1
  have q4 := w2.2.2.2
  refine rm_b (rq_b2 (num_r hb.1.1 hb.1.2.1 1 99 (x1 + 2) _ dx2) (fun u sc u' tc w3 => og_k sg_K0 w3 (fun w3 => ?_)))
  have q5 := tk_pos hb.1.1
  have q6 := w3.2.2.2.1
  refine rq_nC (fun s16 e16 => rq_nC (fun s19 e19 => rm_n (fun t12 e12 => rm_s ?_)))
  have fin := ct_done hb Eb w3 e16
  rw [e19, e12]
  refine semi_r fin ?_
  rw [q_nc rfl, e16, q_nc rfl]
  omega
