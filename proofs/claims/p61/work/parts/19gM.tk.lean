/-! texts: a grocer -/
def KCL : List Nat := [52, 53, 56, 57, 58, 59, 60, 61, 62, 63, 64, 65, 67, 68, 69, 70, 71, 8]
theorem kcl_of {sC s : Sg} (h : KpC sC s) : ∀ c, c ∈ KCL → s.1 c = sC.1 c := by
  obtain ⟨⟨k1, k2, k3, k4, k5, k6, k7, k8, k9, k10, k11, k12⟩, k13, k14, k15, k16, k17, k18, k19, k20⟩ := h
  intro c hc
  unfold KCL at hc
  simp only [List.mem_cons, List.not_mem_nil, or_false] at hc
  rcases hc with e | e | e | e | e | e | e | e | e | e | e | e | e | e | e | e | e | e <;> subst e <;> assumption
abbrev LT65 : Nat := 110680464442257309696
/-- the stock of a grocer in work -/
theorem wk_stock {n : Nat} {x : Int32} {lo hi : Int} {sC sM s t : Sg} (h : WkT n 3 x sC sM) (w : NuT n lo hi (1920 + (92 + 3 * x.toNatClampNeg)) sC sM s t) : WkT n 3 x (pI s 71 x.toNatClampNeg (s.1 7 7)) t := by
  obtain ⟨h1, h2, h3, h4, h5, h6⟩ := h
  obtain ⟨w1, w2, w3, w4, w5, w6⟩ := w
  have cl := cl_nat x
  have x4 : x.toInt < 4 := h6.2.2 (by decide)
  have hx : x.toNatClampNeg < 4 := by omega
  obtain ⟨⟨k1, k2, k3, k4, k5, k6, k7, k8, k9, k10, k11, k12⟩, k13, k14, k15, k16, k17, k18, k19, k20⟩ := kc_of w2
  have ef : ∀ c, ¬ c = 71 → (pI s 71 x.toNatClampNeg (s.1 7 7)).1 c = s.1 c := fun c hc => funext fun k => by rw [pI_1, if_neg (fun z => hc z.1)]
  have eM : ∀ k, ¬ k = 92 + 3 * x.toNatClampNeg → mN t k = mN sM k := fun k hk => by
    unfold mN
    rw [w6, if_neg (by omega)]
  have m2 : t.2 2 = sM.2 2 := funext fun k => fr_e2 w3 2 k 2 rfl rfl
  have c0 : cnN t = cnN sM := cn_e (fun k hk => by rw [w6, if_neg (by omega)])
  have n0 : nmN t = nmN sM := by unfold nmN; rw [m2]
  have e55 : (pI s 71 x.toNatClampNeg (s.1 7 7)).2 55 = sC.2 55 := k3
  refine ⟨⟨?_, ?_, ?_⟩, ?_, ?_, ?_, ?_, h6⟩
  · exact tk_f (L1 := 2 ^ 71) (L2 := 0) w1 (fr_x 71 rfl) fr_r (m_and rfl) rfl
  · rw [fr_e w3 0 18 38 rfl rfl]; exact h1.2.1
  · unfold ToldS
    rw [ef 8 (by decide), k20, fr_e w3 0 20 40 rfl rfl]
    exact h1.2.2
  · unfold NmP at h2 ⊢
    rw [(ef 52 (by decide)).trans k1, e55, (ef 56 (by decide)).trans k4, (ef 57 (by decide)).trans k5, c0, n0]
    exact h2
  · unfold PlanS
    rw [(ef 52 (by decide)).trans k1, (ef 58 (by decide)).trans k6, (ef 59 (by decide)).trans k7, (ef 60 (by decide)).trans k8, (ef 61 (by decide)).trans k9, (ef 62 (by decide)).trans k10, (ef 63 (by decide)).trans k11, (ef 64 (by decide)).trans k12, (ef 65 (by decide)).trans k13, (ef 66 (by decide)).trans k14]
    exact plan_x h3 (fun _ _ _ => rfl) (fun k hk => eM k (by omega)) ⟨h3.2.2.1.1.trans (eM 9 (by omega)).symm, h3.2.2.1.2.1.trans (eM 13 (by omega)).symm, h3.2.2.1.2.2.trans (eM 14 (by omega)).symm⟩ (fun q hq => by
      have := h3.2.1.2.1
      exact ⟨⟨rfl, rfl, rfl⟩, eM _ (by omega), eM _ (by omega), eM _ (by omega)⟩) (fun _ _ => rfl) (fun c hc => by
      have := h3.2.1.2.2.1
      exact ⟨⟨rfl, rfl, rfl⟩, eM _ (by omega), eM _ (by omega), eM _ (by omega)⟩) (fun g _ => ⟨⟨rfl, rfl⟩, eM _ (by omega), eM _ (by omega)⟩)
  · unfold GrS
    rw [(ef 67 (by decide)).trans k15, (ef 68 (by decide)).trans k16, (ef 69 (by decide)).trans k17, (ef 70 (by decide)).trans k18, (ef 53 (by decide)).trans k2]
    refine gr_x h4 (fun h hh => ⟨by rw [eM _ (by omega)]; exact (h4.1 h hh).1, by rw [eM _ (by omega)]; exact (h4.1 h hh).2.1, rfl, eM _ (by omega)⟩) (fun g hg => ?_) (fun q _ => ⟨rfl, eM _ (by omega), eM _ (by omega)⟩) (fun _ _ _ => rfl) (fun k k1 k2 k3 => eM k (by omega)) ⟨eM 3 (by omega), fun g _ _ => eM _ (by omega)⟩
    rw [pI_1]
    by_cases z : g = x.toNatClampNeg
    · rw [if_pos ⟨rfl, z⟩]
      unfold mN
      rw [w6, if_pos (by omega)]
    · rw [if_neg (fun y => z y.2), eM _ (by omega), k19]
      exact h4.2.1 g hg
  · rw [w6, if_neg (by omega)]; exact h5
/-- price and sweet of a grocer in work -/
def GcE (x : Int32) (s t : Sg) : Prop := s.1 65 x.toNatClampNeg = t.1 1 (1920 + (93 + 3 * x.toNatClampNeg)) ∧ s.1 66 x.toNatClampNeg = t.1 1 (1920 + (94 + 3 * x.toNatClampNeg))
theorem gce_st {n : Nat} {x : Int32} {sC sM s t : Sg} (w : StT n sC sM s t) (h : GcE x sC sM) : GcE x s t := by
  obtain ⟨⟨⟨y1, y2, y3, y4, y5, y6, y7, y8, y9, y10, y11, y12⟩, y13, y14, y15, y16, y17, y18, y19, y20⟩, y21, y22, y23, y24⟩ := kp_of w
  unfold GcE
  rw [y13, y14, y21]
  exact h
theorem wk_price {n : Nat} {x : Int32} {lo hi : Int} {sC sM s t : Sg} (h : WkT n 3 x sC sM) (w : NuT n lo hi (1920 + (93 + 3 * x.toNatClampNeg)) sC sM s t) : WkT n 3 x (pI (pI s 65 x.toNatClampNeg (s.1 7 7)) 66 x.toNatClampNeg 0) t ∧ GcE x (pI (pI s 65 x.toNatClampNeg (s.1 7 7)) 66 x.toNatClampNeg 0) t := by
  have h6 := h.2.2.2.2.2
  have cl := cl_nat x
  have x4 : x.toInt < 4 := h6.2.2 (by decide)
  have h5 : sM.1 1 1923 = x := h.2.2.2.2.1
  have sw := h.2.2.2.1.2.2.2.2.2
  obtain ⟨w1, w2, w3, w4, w5, w6⟩ := w
  obtain ⟨⟨k1, k2, k3, k4, k5, k6, k7, k8, k9, k10, k11, k12⟩, k13, k14, k15, k16, k17, k18, k19, k20⟩ := kc_of w2
  have ef : ∀ c, ¬ c = 65 → ¬ c = 66 → (pI (pI s 65 x.toNatClampNeg (s.1 7 7)) 66 x.toNatClampNeg 0).1 c = s.1 c := fun c z1 z2 => funext fun k => by
    rw [pI_1, if_neg (fun z => z2 z.1), pI_1, if_neg (fun z => z1 z.1)]
  have ek : ∀ k, ¬ k = x.toNatClampNeg → (pI (pI s 65 x.toNatClampNeg (s.1 7 7)) 66 x.toNatClampNeg 0).1 65 k = s.1 65 k ∧ (pI (pI s 65 x.toNatClampNeg (s.1 7 7)) 66 x.toNatClampNeg 0).1 66 k = s.1 66 k := fun k z => by
    constructor
    · rw [pI_1, if_neg (fun y => z y.2), pI_1, if_neg (fun y => z y.2)]
    · rw [pI_1, if_neg (fun y => z y.2), pI_1, if_neg (fun y => z y.2)]
  refine ⟨wk_x (by decide) h ?_ ⟨(ef 52 (by decide) (by decide)).trans k1, k3, (ef 56 (by decide) (by decide)).trans k4, (ef 57 (by decide) (by decide)).trans k5, (ef 61 (by decide) (by decide)).trans k9, (ef 8 (by decide) (by decide)).trans k20⟩ ⟨(ef 53 (by decide) (by decide)).trans k2, (ef 67 (by decide) (by decide)).trans k15, (ef 68 (by decide) (by decide)).trans k16, (ef 69 (by decide) (by decide)).trans k17, (ef 70 (by decide) (by decide)).trans k18, (ef 71 (by decide) (by decide)).trans k19⟩ (fun k _ => ⟨by rw [ef 58 (by decide) (by decide), k6], by rw [ef 59 (by decide) (by decide), k7], by rw [ef 60 (by decide) (by decide), k8]⟩) (fun k _ => ⟨by rw [ef 62 (by decide) (by decide), k10], by rw [ef 63 (by decide) (by decide), k11], by rw [ef 64 (by decide) (by decide), k12]⟩) (fun k hk => ?_) ⟨funext fun k => fr_e2 w3 2 k 2 rfl rfl, fr_e w3 0 20 40 rfl rfl, fr_e w3 0 18 38 rfl rfl⟩ (fun k hk => ?_), ?_, ?_⟩
  · exact tk_f (L1 := LT65) (L2 := 0) w1 (fr_i (fr_i fr_r 65 rfl rfl) 66 rfl rfl) fr_r rfl rfl
  · have e := ek k (fun z => hk ⟨rfl, z⟩)
    rw [e.1, e.2, k13, k14]
    exact ⟨rfl, rfl⟩
  · rw [w6, if_neg (fun z => hk (Or.inr (Or.inr ⟨rfl, by omega⟩)))]
  · rw [q_nc rfl, q_eq, w6, if_pos rfl]
  · rw [q_eq, w6, if_neg (by omega)]
    have z := sw x.toNatClampNeg (by omega) (by
      show (sM.1 1 1923).toInt ≤ _
      rw [h5]
      omega)
    exact z.symm
/-- a grocer is counted -/
theorem gc_done {n : Nat} {x : Int32} {sC sM s t : Sg} (h : WkT n 3 x sC sM) (tk : TkRel n s t) (kc : ∀ c, c ∈ KCL → s.1 c = sC.1 c) (k55 : s.2 55 = sC.2 55) (k66 : ∀ k, ¬ k = x.toNatClampNeg → s.1 66 k = sC.1 66 k) (m0 : t.2 2 = sM.2 2 ∧ t.1 0 20 = sM.1 0 20 ∧ t.1 0 18 = sM.1 0 18) (m1 : ∀ k, ¬ k = 94 + 3 * x.toNatClampNeg → t.1 1 (1920 + k) = sM.1 1 (1920 + k)) (hE : GcE x s t) : SR n (pI s 52 16 ((s.1 52 16) + 1)) (pI t 1 1923 ((t.1 1 1923) + 1)) := by
  obtain ⟨h1, h2, h3, h4, h5, h6⟩ := h
  have cl := cl_nat x
  have x4 : x.toInt < 4 := h6.2.2 (by decide)
  have e1 : (1 : Int32).toInt = 1 := rfl
  have cf : ∀ c, ¬ c = 52 → (pI s 52 16 ((s.1 52 16) + 1)).1 c = s.1 c := fun c z1 => funext fun k => by
    rw [pI_1, if_neg (fun y => z1 y.1)]
  have e2 : (pI s 52 16 ((s.1 52 16) + 1)).2 = s.2 := rfl
  have c52 : ∀ k, ¬ k = 16 → (pI s 52 16 ((s.1 52 16) + 1)).1 52 k = sC.1 52 k := fun k hk => by
    rw [pI_1, if_neg (fun y => hk y.2), kc 52 (by decide)]
  have c16 : (pI s 52 16 ((s.1 52 16) + 1)).1 52 16 = sC.1 52 16 + 1 := by
    rw [q_eq, kc 52 (by decide)]
  have h5' : sM.1 1 1923 = x := h5
  have m21 : t.1 1 1923 = x := by rw [show (1923 : Nat) = 1920 + 3 from rfl, m1 3 (by omega)]; exact h5
  have eM : ∀ k, ¬ k = 3 → ¬ k = 94 + 3 * x.toNatClampNeg → mN (pI t 1 1923 ((t.1 1 1923) + 1)) k = mN sM k := fun k z1 z2 => by
    unfold mN
    rw [pI_1, if_neg (fun y => z1 (by have := y.2; omega)), m1 k z2]
  have mM1 : mN (pI t 1 1923 ((t.1 1 1923) + 1)) 3 = x + 1 := by
    show (pI t 1 1923 ((t.1 1 1923) + 1)).1 1 1923 = _
    rw [q_eq, m21]
  have m94 : mN (pI t 1 1923 ((t.1 1 1923) + 1)) (94 + 3 * x.toNatClampNeg) = s.1 66 x.toNatClampNeg := by
    unfold mN
    rw [pI_1, if_neg (fun y => by have := y.2; omega)]
    exact hE.2.symm
  have m93 : mN (pI t 1 1923 ((t.1 1 1923) + 1)) (93 + 3 * x.toNatClampNeg) = s.1 65 x.toNatClampNeg := by
    unfold mN
    rw [pI_1, if_neg (fun y => by have := y.2; omega)]
    exact hE.1.symm
  have ax : (x + 1).toInt = x.toInt + 1 := i_addx x 1 (show -2147483648 ≤ x.toInt + 1 ∧ x.toInt + 1 ≤ 2147483647 from by omega)
  have tk' : TkRel n (pI s 52 16 ((s.1 52 16) + 1)) (pI t 1 1923 ((t.1 1 1923) + 1)) := tk_f (L1 := 2 ^ 206) (L2 := 2 ^ 1) tk (fr_x 206 rfl) (fr_x 1 rfl) (m_and rfl) (m_and rfl)
  refine ⟨⟨tk', ?_, ?_⟩, ?_, ?_, ?_⟩
  · rw [q_nc rfl, m0.2.2]; exact h1.2.1
  · unfold ToldS
    rw [cf 8 (by decide), kc 8 (by decide), q_nc rfl, m0.2.1]
    exact h1.2.2
  · obtain ⟨⟨a1, a2, a3, a4⟩, ⟨d0, d1, d2, d3⟩, ⟨c5, c6, c7⟩, cq, cA, cc, cg⟩ := h3
    have g1 : mN sM 3 = x := h5
    rw [g1] at cg a4 d3
    unfold PlanS PlanA
    rw [cf 58 (by decide), kc 58 (by decide), cf 59 (by decide), kc 59 (by decide), cf 60 (by decide), kc 60 (by decide), cf 61 (by decide), kc 61 (by decide), cf 62 (by decide), kc 62 (by decide), cf 63 (by decide), kc 63 (by decide), cf 64 (by decide), kc 64 (by decide), cf 65 (by decide), cf 66 (by decide), c52 13 (by decide), c52 14 (by decide), c52 15 (by decide), c52 17 (by decide), c52 18 (by decide), c52 19 (by decide), c16, mM1, eM 0 (by decide) (by omega), eM 1 (by decide) (by omega), eM 2 (by decide) (by omega), eM 9 (by decide) (by omega), eM 13 (by decide) (by omega), eM 14 (by decide) (by omega)]
    refine ⟨⟨a1, a2, a3, by rw [a4]⟩, ⟨d0, d1, d2, by omega⟩, ⟨c5, c6, c7⟩, fun q hq => ?_, cA, fun c hc => ?_, fun g hg => ?_⟩
    · have z := cq q hq
      rw [eM _ (by omega) (by omega), eM _ (by omega) (by omega), eM _ (by omega) (by omega)]
      exact z
    · have z := cc c hc
      rw [eM _ (by omega) (by omega), eM _ (by omega) (by omega), eM _ (by omega) (by omega)]
      exact z
    · by_cases z : g = x.toNatClampNeg
      · rw [z, m93, m94]
        exact ⟨rfl, rfl⟩
      · rw [eM _ (by omega) (by omega), eM _ (by omega) (by omega), k66 g z, kc 65 (by decide)]
        exact cg g (by omega)
  · obtain ⟨a1, a2, a3, a4, ⟨b4, b5, b6, b7, b8, b10, b11, b12⟩, a6⟩ := h4
    unfold GrS
    rw [cf 67 (by decide), kc 67 (by decide), cf 68 (by decide), kc 68 (by decide), cf 69 (by decide), kc 69 (by decide), cf 70 (by decide), kc 70 (by decide), cf 71 (by decide), kc 71 (by decide), cf 53 (by decide), kc 53 (by decide)]
    refine ⟨fun h hh => ?_, fun g hg => ?_, fun q hq => ?_, a4, ?_, fun g g1 g2 => ?_⟩
    · rw [eM _ (by omega) (by omega), eM _ (by omega) (by omega), eM _ (by omega) (by omega)]
      exact a1 h hh
    · rw [eM _ (by omega) (by omega)]
      exact a2 g hg
    · rw [eM _ (by omega) (by omega), eM _ (by omega) (by omega)]
      exact a3 q hq
    · rw [eM 4 (by decide) (by omega), eM 5 (by decide) (by omega), eM 6 (by decide) (by omega), eM 7 (by decide) (by omega), eM 8 (by decide) (by omega), eM 10 (by decide) (by omega), eM 11 (by decide) (by omega), eM 12 (by decide) (by omega)]
      exact ⟨b4, b5, b6, b7, b8, b10, b11, b12⟩
    · rw [mM1] at g2
      rw [eM _ (by omega) (by omega)]
      refine a6 g g1 ?_
      show (sM.1 1 1923).toInt ≤ _
      rw [h5']
      omega
  · have hb : ∀ x, x < 4 → cnN sM x ≤ 8 ∧ (2 ≤ x → cnN sM x ≤ 4) := by
      have b := h3.2.1
      have d0 : mN sM 0 = sM.1 1 1920 := rfl
      have d1 : mN sM 1 = sM.1 1 1921 := rfl
      have d2 : mN sM 2 = sM.1 1 1922 := rfl
      have d3 : mN sM 3 = sM.1 1 1923 := rfl
      rw [d0, d1, d2, d3] at b
      refine u4 ?_ ?_ ?_ ?_
      · show (sM.1 1 1920).toInt.toNat ≤ 8 ∧ (2 ≤ 0 → (sM.1 1 1920).toInt.toNat ≤ 4)
        omega
      · show (sM.1 1 1921).toInt.toNat ≤ 8 ∧ (2 ≤ 1 → (sM.1 1 1921).toInt.toNat ≤ 4)
        omega
      · show (sM.1 1 1922).toInt.toNat ≤ 8 ∧ (2 ≤ 2 → (sM.1 1 1922).toInt.toNat ≤ 4)
        omega
      · show (sM.1 1 1923).toInt.toNat ≤ 8 ∧ (2 ≤ 3 → (sM.1 1 1923).toInt.toNat ≤ 4)
        omega
    have c1 : cnN (pI t 1 1923 ((t.1 1 1923) + 1)) 3 = cnN sM 3 + 1 := by
      show ((pI t 1 1923 ((t.1 1 1923) + 1)).1 1 1923).toInt.toNat = (sM.1 1 1923).toInt.toNat + 1
      rw [q_eq, m21, h5']
      omega
    have c2 : ∀ z, ¬ z = 3 → cnN (pI t 1 1923 ((t.1 1 1923) + 1)) z = cnN sM z := fun z hz => by
      unfold cnN
      by_cases y : z < 4
      · rw [if_pos y, if_pos y, pI_1, if_neg (fun v => hz (by have := v.2; omega)), m1 z (by omega)]
      · rw [if_neg y, if_neg y]
    have d := nm_done (q := 3) (by decide) (mM := fun _ => 0) h2 hb ⟨c1, c2⟩
    have nn : nmN (pI t 1 1923 ((t.1 1 1923) + 1)) = nmN sM := by
      unfold nmN
      have : (pI t 1 1923 ((t.1 1 1923) + 1)).2 2 = sM.2 2 := m0.1
      rw [this]
    unfold NmS
    rw [nn, cf 56 (by decide), kc 56 (by decide), cf 57 (by decide), kc 57 (by decide), c52 12 (by decide), e2, k55]
    exact d
theorem grocer_r {n : Nat} {sC sM : Sg} (h : SR n sC sM) : RQ (f_X6_takeGrocer sC) (bd (f_X12_aGrocer sM) (fun r s => f_X12_streetPart_b102 r s)) (Og (PaT n sC sM)) := by
  obtain ⟨h1, h2, h3, h4⟩ := h
  have hcnt : sC.1 52 16 = sM.1 1 1923 := h2.1.2.2.2
  have q0 := tk_pos h1.1
  unfold f_X6_takeGrocer f_X12_aGrocer
  rw [hcnt]
  refine rm_n (fun x1 ex1 => rm_b (rq_b2 (new_r (q := 3) h1 h2 h3 h4 (by decide) 112 4 3 20 rfl rfl rfl rfl) (fun r s r' t g => og_k sg_K0 g (fun g => ?_))))
  have wk := wk_of (by decide) g
  have g5 := g.2.2.2.2.1
  have hx := wk.2.2.2.2.2
  have wk : WkT n 3 (sM.1 1 1923) s t := wk
  have hx : 0 ≤ (sM.1 1 1923).toInt ∧ (sM.1 1 1923).toInt < 4 := ⟨hx.1, hx.2.2 (by decide)⟩
  generalize sM.1 1 1923 = x at wk hx ex1 ⊢
  have cl := cl_nat x
  have e3 : (3 : Int32).toInt = 3 := rfl
  have e2 : (2 : Int32).toInt = 2 := rfl
  have e1 : (1 : Int32).toInt = 1 := rfl
  have e2012 : (2012 : Int32).toInt = 2012 := rfl
  have mx : (3 * x).toInt = 3 * x.toInt := i_mulx 3 x (show -2147483648 ≤ 3 * x.toInt ∧ 3 * x.toInt ≤ 2147483647 from by omega)
  have ax : x1.toInt = 2012 + 3 * x.toInt := by
    rw [ex1]
    have := i_addx 2012 (3 * x) (show -2147483648 ≤ 2012 + (3 * x).toInt ∧ 2012 + (3 * x).toInt ≤ 2147483647 from by omega)
    omega
  have ax1 : (x1 + 1).toInt = x1.toInt + 1 := i_addx x1 1 (show -2147483648 ≤ x1.toInt + 1 ∧ x1.toInt + 1 ≤ 2147483647 from by omega)
  have ax2 : (x1 + 2).toInt = x1.toInt + 2 := i_addx x1 2 (show -2147483648 ≤ x1.toInt + 2 ∧ x1.toInt + 2 ≤ 2147483647 from by omega)
  have clx := cl_nat x1
  have clx1 := cl_nat (x1 + 1)
  have clx2 := cl_nat (x1 + 2)
  have dx0 : x1.toNatClampNeg = 1920 + (92 + 3 * x.toNatClampNeg) := by omega
  have dx1 : (x1 + 1).toNatClampNeg = 1920 + (93 + 3 * x.toNatClampNeg) := by omega
  have dx2 : (x1 + 2).toNatClampNeg = 1920 + (94 + 3 * x.toNatClampNeg) := by omega
  refine rm_b (rq_b2 (pass_w wk.1.1 wk.1.2.1 113 14 13 (by decide) rfl rfl) (fun u s4 u' t5 w => og_k sg_K0 w (fun w => ?_)))
  have wk4 := wk_st w wk
  have q1 := tk_pos wk.1.1
  have q2 := w.2.2.2
  refine rm_b (rq_b2 (num_r wk4.1.1 wk4.1.2.1 0 999 x1 _ dx0) (fun u s6 u' t7 w2 => og_k sg_K0 w2 (fun w2 => ?_)))
  have q3 := tk_pos wk4.1.1
  have q4 := w2.2.2.2.1
  refine rq_cC (fun _ => rq_nC (fun s8 e8 => ?_))
  have wk8 := wk_stock wk4 w2
  rw [← e8] at wk8
  have p8 : (sC.1 7 2).toInt ≤ (s8.1 7 4).toInt := by
    rw [e8, q_nc rfl]
    omega
  clear e8 w2 w
  refine rm_b (rq_b2 (pass_w wk8.1.1 wk8.1.2.1 114 15 14 (by decide) rfl rfl) (fun u s10 u' t9 w3 => og_k sg_K0 w3 (fun w3 => ?_)))
  have wk10 := wk_st w3 wk8
  have q5 := tk_pos wk8.1.1
  have q6 := w3.2.2.2
  refine rm_b (rq_b2 (num_r wk10.1.1 wk10.1.2.1 1 99 (x1 + 1) _ dx1) (fun u s12 u' t11 w4 => og_k sg_K0 w4 (fun w4 => ?_)))
  have q7 := tk_pos wk10.1.1
  have q8 := w4.2.2.2.1
  refine rq_nC (fun s13 e13 => rq_nC (fun s14 e14 => ?_))
  obtain ⟨wk14, E14⟩ := wk_price wk10 w4
  rw [← e13, ← e14] at wk14 E14
  have p14 : (sC.1 7 2).toInt ≤ (s14.1 7 4).toInt := by
    rw [e14, q_nc rfl, e13, q_nc rfl]
    omega
  unfold f_X12_isThere
  refine rm_b (rm_b (rq_bM (word_r wk14.1.1) (fun r1 s2 g => ?_)))
  obtain ⟨es, g, -⟩ := g
  subst es
  have e := kws_eq g (i := 15) (by decide) (c := 115) (p := 16) rfl rfl
  refine rq_iC (fun c => rm_i (fun d => ?_) (fun d => absurd (e.mp c) d)) (fun c => rm_i (fun d => absurd (e.mpr d) c) (fun d => ?_))
  · refine rm_b (rq_b2 (adv_s wk14.1.1) (fun _ s16 _ t13 w5 => ?_))
    have wk16 := wk_st w5 wk14
    have q9 := tk_pos wk14.1.1
    have q10 := w5.2.2.2
    have E16 := gce_st w5 E14
    refine rm_s (rm_i (fun z => absurd z i10) (fun _ => ?_))
    refine rm_b (rq_b2 (num_r wk16.1.1 wk16.1.2.1 0 16 (x1 + 2) _ dx2) (fun u s18 u' t15 w6 => og_k sg_K0 w6 (fun w6 => ?_)))
    have q11 := tk_pos wk16.1.1
    obtain ⟨z1, z2, z3, z4, z5, z6⟩ := w6
    refine rq_nC (fun s19 e19 => ?_)
    unfold f_X6_takeGrocer_b171 f_X12_aGrocer_b101
    refine rm_s (semi_r (gc_done (s := s19) (t := t15) wk16 ?_ (fun c hc => ?_) ?_ (fun k hk => ?_) ⟨funext fun k => fr_e2 z3 2 k 2 rfl rfl, fr_e z3 0 20 40 rfl rfl, fr_e z3 0 18 38 rfl rfl⟩ (fun k hk => ?_) ⟨?_, ?_⟩) ?_)
    · rw [e19]
      exact tk_f (L1 := 2 ^ 66) (L2 := 0) z1 (fr_x 66 rfl) fr_r (m_and rfl) rfl
    · have n66 : ¬ c = 66 := fun z => by rw [z] at hc; exact absurd hc (by decide)
      rw [← kcl_of (kc_of z2) c hc, e19]
      exact funext fun k => by rw [pI_1, if_neg (fun y => n66 y.1)]
    · rw [e19]
      exact (kc_of z2).1.2.2.1
    · rw [e19, pI_1, if_neg (fun y => hk y.2), (kc_of z2).2.2.1]
    · rw [z6, if_neg (by omega)]
    · rw [e19, q_nc rfl, (kc_of z2).2.1, z6, if_neg (by omega)]
      exact E16.1
    · rw [e19, q_eq, z6, if_pos rfl]
    · rw [q_nc rfl, e19, q_nc rfl]
      omega
  · refine rm_s (rm_i (fun _ => ?_) (fun z => absurd rfl z))
    unfold f_X6_takeGrocer_b171 f_X12_aGrocer_b101
    refine rm_s (semi_r (gc_done wk14 wk14.1.1 (fun _ _ => rfl) rfl (fun _ _ => rfl) ⟨rfl, rfl, rfl⟩ (fun _ _ => rfl) E14) ?_)
    rw [q_nc rfl]
    exact p14
