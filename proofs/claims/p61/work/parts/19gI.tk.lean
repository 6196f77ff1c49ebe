abbrev LTQ : Nat := 25711008708143844408671393477458601640355251359289199185362944
/-! texts: a quarrel is counted -/
theorem qat_s (on ot : Nat → Int32) (q h : Nat) : qat on ot (q + 1) h = if (on q).toInt = (h : Int) ∨ (ot q).toInt = (h : Int) then qat on ot q h ||| bitI q else qat on ot q h := rfl
theorem join_p (x : Int32) (s : Sg) : PQ (f_X4_joinAt_52 x s) (fun _ t => t = pI (pI s 61 ((s.1 58 x.toNatClampNeg).toNatClampNeg) ((s.1 61 ((s.1 58 x.toNatClampNeg).toNatClampNeg)) ||| ((1 : Int32) <<< (x &&& 31)))) 61 ((s.1 59 x.toNatClampNeg).toNatClampNeg) (((pI s 61 ((s.1 58 x.toNatClampNeg).toNatClampNeg) ((s.1 61 ((s.1 58 x.toNatClampNeg).toNatClampNeg)) ||| ((1 : Int32) <<< (x &&& 31)))).1 61 ((s.1 59 x.toNatClampNeg).toNatClampNeg)) ||| ((1 : Int32) <<< (x &&& 31)))) := by
  unfold f_X4_joinAt_52
  refine pq_c (fun _ => pq_c (fun _ => pq_n (fun s3 e3 => pq_c (fun _ => pq_n (fun s5 e5 => pq_s ?_)))))
  have k : s3.1 59 x.toNatClampNeg = s.1 59 x.toNatClampNeg := by rw [e3, q_nc rfl]
  rw [k] at e5
  rw [e5, e3]
theorem bitI_x (x : Int32) (h : 0 ≤ x.toInt) : (1 : Int32) <<< (x &&& 31) = bitI x.toNatClampNeg := by
  have e : Int32.ofNat x.toNatClampNeg = x := by
    apply Int32.toInt_inj.mp
    have cl := cl_nat x
    have r := i_rg x
    rw [Int32.toInt_ofNat_of_lt (by omega)]
    omega
  unfold bitI
  rw [e]
/-- the reference's number behind 'needs', the class's row, the sets at both houses, the count on both sides -/
theorem qr_done {n : Nat} {x : Int32} {sC sM s t s' : Sg} {lo hi : Int} (h : WkT n 1 x sC sM) (hE : QrE x sC sM) (w : NuT n lo hi (1920 + (42 + 5 * x.toNatClampNeg)) sC sM s t) (hj : s' = pI (pI (pI s 60 x.toNatClampNeg (s.1 7 7)) 61 ((s.1 58 x.toNatClampNeg).toNatClampNeg) ((s.1 61 ((s.1 58 x.toNatClampNeg).toNatClampNeg)) ||| ((1 : Int32) <<< (x &&& 31)))) 61 ((s.1 59 x.toNatClampNeg).toNatClampNeg) (((pI (pI s 60 x.toNatClampNeg (s.1 7 7)) 61 ((s.1 58 x.toNatClampNeg).toNatClampNeg) ((s.1 61 ((s.1 58 x.toNatClampNeg).toNatClampNeg)) ||| ((1 : Int32) <<< (x &&& 31)))).1 61 ((s.1 59 x.toNatClampNeg).toNatClampNeg)) ||| ((1 : Int32) <<< (x &&& 31)))) : SR n (pI s' 52 14 ((s'.1 52 14) + 1)) (pI t 1 1921 ((t.1 1 1921) + 1)) := by
  obtain ⟨h1, h2, h3, h4, h5, h6⟩ := h
  obtain ⟨w1, w2, w3, w4, w5, w6⟩ := w
  obtain ⟨⟨k1, k2, k3, k4, k5, k6, k7, k8, k9, k10, k11, k12⟩, k13, k14, k15, k16, k17, k18, k19, k20⟩ := kc_of w2
  obtain ⟨⟨E1, E2⟩, E3, E4, E5⟩ := hE
  have cl := cl_nat x
  have o58 : s.1 58 x.toNatClampNeg = sC.1 58 x.toNatClampNeg := by rw [k6]
  have o59 : s.1 59 x.toNatClampNeg = sC.1 59 x.toNatClampNeg := by rw [k7]
  rw [o58, o59] at hj
  have b0 : 0 ≤ (sM.1 1 1920).toInt ∧ (sM.1 1 1920).toInt ≤ 8 := h3.2.1.1
  generalize hoa : sC.1 58 x.toNatClampNeg = oa at hj E1 E3 E5
  generalize hob : sC.1 59 x.toNatClampNeg = ob at hj E2 E4 E5
  have ca := cl_nat oa
  have cb := cl_nat ob
  have nab : ¬ oa.toNatClampNeg = ob.toNatClampNeg := fun e => E5 (Int32.toInt_inj.mp (by omega))
  have bx := bitI_x x h6.1
  rw [bx] at hj
  have e1 : (1 : Int32).toInt = 1 := rfl
  -- the class's cells
  have cf : ∀ c, ¬ c = 52 → ¬ c = 60 → ¬ c = 61 → (pI s' 52 14 ((s'.1 52 14) + 1)).1 c = s.1 c := fun c z1 z2 z3 => funext fun k => by
    rw [pI_1, if_neg (fun y => z1 y.1), hj, pI_1, if_neg (fun y => z3 y.1), pI_1, if_neg (fun y => z3 y.1), pI_1, if_neg (fun y => z2 y.1)]
  have e2 : (pI s' 52 14 ((s'.1 52 14) + 1)).2 = s.2 := by rw [hj]; rfl
  have c52 : ∀ k, ¬ k = 14 → (pI s' 52 14 ((s'.1 52 14) + 1)).1 52 k = sC.1 52 k := fun k hk => by
    rw [pI_1, if_neg (fun y => hk y.2), hj, q_nc rfl, q_nc rfl, q_nc rfl, k1]
  have c14 : (pI s' 52 14 ((s'.1 52 14) + 1)).1 52 14 = sC.1 52 14 + 1 := by
    rw [q_eq, hj, q_nc rfl, q_nc rfl, q_nc rfl, k1]
  have c60 : ∀ k, (pI s' 52 14 ((s'.1 52 14) + 1)).1 60 k = if k = x.toNatClampNeg then s.1 7 7 else sC.1 60 k := fun k => by
    rw [q_nc rfl, hj, q_nc rfl, q_nc rfl, pI_1]
    by_cases z : k = x.toNatClampNeg
    · rw [if_pos ⟨rfl, z⟩, if_pos z]
    · rw [if_neg (fun y => z y.2), if_neg z, k8]
  have c61 : ∀ k, (pI s' 52 14 ((s'.1 52 14) + 1)).1 61 k = if k = oa.toNatClampNeg ∨ k = ob.toNatClampNeg then sC.1 61 k ||| bitI x.toNatClampNeg else sC.1 61 k := fun k => by
    rw [q_nc rfl, hj, pI_1]
    by_cases z : k = ob.toNatClampNeg
    · rw [if_pos ⟨rfl, z⟩, if_pos (Or.inr z), pI_1, if_neg (fun y => nab y.2.symm), q_nc rfl, k9, z]
    · rw [if_neg (fun y => z y.2), pI_1]
      by_cases z2 : k = oa.toNatClampNeg
      · rw [if_pos ⟨rfl, z2⟩, if_pos (Or.inl z2), k9, z2]
      · rw [if_neg (fun y => z2 y.2), if_neg (fun y => y.elim z2 z), q_nc rfl, k9]
  -- the reference's cells
  have hM1 : (sM.1 1 1921).toInt = x.toInt := by rw [show sM.1 1 1921 = x from h5]
  have m21 : t.1 1 1921 = x := by rw [w6, if_neg (by omega)]; exact h5
  have eM : ∀ k, ¬ k = 1 → ¬ k = 42 + 5 * x.toNatClampNeg → mN (pI t 1 1921 ((t.1 1 1921) + 1)) k = mN sM k := fun k z1 z2 => by
    unfold mN
    rw [pI_1, if_neg (fun y => z1 (by have := y.2; omega)), w6, if_neg (by omega)]
  have mM1 : mN (pI t 1 1921 ((t.1 1 1921) + 1)) 1 = x + 1 := by
    show (pI t 1 1921 ((t.1 1 1921) + 1)).1 1 1921 = _
    rw [q_eq, m21]
  have m42 : mN (pI t 1 1921 ((t.1 1 1921) + 1)) (42 + 5 * x.toNatClampNeg) = s.1 7 7 := by
    unfold mN
    rw [pI_1, if_neg (fun y => by have := y.2; omega), w6, if_pos rfl]
  have ax : (x + 1).toInt = x.toInt + 1 := i_addx x 1 (show -2147483648 ≤ x.toInt + 1 ∧ x.toInt + 1 ≤ 2147483647 from by omega)
  have tk : TkRel n (pI s' 52 14 ((s'.1 52 14) + 1)) (pI t 1 1921 ((t.1 1 1921) + 1)) := by
    refine tk_f (L1 := LTQ) (L2 := 2 ^ 1) w1 ?_ (fr_x 1 rfl) rfl (m_and rfl)
    rw [hj]
    exact fr_i (fr_i (fr_i (fr_i fr_r 60 rfl rfl) 61 rfl rfl) 61 rfl rfl) 204 rfl rfl
  refine ⟨⟨tk, ?_, ?_⟩, ?_, ?_, ?_⟩
  · rw [q_nc rfl, fr_e w3 0 18 38 rfl rfl]; exact h1.2.1
  · unfold ToldS
    rw [cf 8 (by decide) (by decide) (by decide), k20, q_nc rfl, fr_e w3 0 20 40 rfl rfl]
    exact h1.2.2
  · obtain ⟨⟨a1, a2, a3, a4⟩, ⟨d0, d1, d2, d3⟩, ⟨c5, c6, c7⟩, cq, cA, cc, cg⟩ := h3
    have g1 : mN sM 1 = x := h5
    have g0 : mN sM 0 = sM.1 1 1920 := rfl
    rw [g1] at cq a2 d1 cA
    unfold PlanS PlanA
    rw [cf 58 (by decide) (by decide) (by decide), k6, cf 59 (by decide) (by decide) (by decide), k7, cf 62 (by decide) (by decide) (by decide), k10, cf 63 (by decide) (by decide) (by decide), k11, cf 64 (by decide) (by decide) (by decide), k12, cf 65 (by decide) (by decide) (by decide), k13, cf 66 (by decide) (by decide) (by decide), k14, c52 13 (by decide), c52 15 (by decide), c52 16 (by decide), c52 17 (by decide), c52 18 (by decide), c52 19 (by decide), c14, mM1, eM 0 (by decide) (by omega), eM 2 (by decide) (by omega), eM 3 (by decide) (by omega), eM 9 (by decide) (by omega), eM 13 (by decide) (by omega), eM 14 (by decide) (by omega)]
    refine ⟨⟨a1, by rw [a2], a3, a4⟩, ⟨d0, by omega, d2, d3⟩, ⟨c5, c6, c7⟩, fun q hq => ?_, fun k hk => ?_, fun c hc => ?_, fun g hg => ?_⟩
    · by_cases z : q = x.toNatClampNeg
      · rw [z, eM _ (by omega) (by omega), eM _ (by omega) (by omega), c60, if_pos rfl, m42, hoa, hob]
        refine ⟨⟨?_, ?_, rfl⟩, E3, E4, E5⟩
        · show oa = sM.1 1 (1920 + (40 + 5 * x.toNatClampNeg))
          rw [E1]
          exact congrArg (sM.1 1) (by omega)
        · show ob = sM.1 1 (1920 + (41 + 5 * x.toNatClampNeg))
          rw [E2]
          exact congrArg (sM.1 1) (by omega)
      · rw [eM _ (by omega) (by omega), eM _ (by omega) (by omega), eM _ (by omega) (by omega), c60, if_neg z]
        exact cq q (by omega)
    · have nx : (x + 1).toInt.toNat = x.toNatClampNeg + 1 := by omega
      have nx0 : x.toInt.toNat = x.toNatClampNeg := by omega
      rw [c61, nx, cA k hk, nx0, qat_s, hoa, hob]
      by_cases z : k = oa.toNatClampNeg ∨ k = ob.toNatClampNeg
      · rw [if_pos z, if_pos (by omega)]
      · rw [if_neg z, if_neg (by omega)]
    · rw [eM _ (by omega) (by omega), eM _ (by omega) (by omega), eM _ (by omega) (by omega)]
      exact cc c hc
    · rw [eM _ (by omega) (by omega), eM _ (by omega) (by omega)]
      exact cg g hg
  · unfold GrS
    rw [cf 67 (by decide) (by decide) (by decide), k15, cf 68 (by decide) (by decide) (by decide), k16, cf 69 (by decide) (by decide) (by decide), k17, cf 70 (by decide) (by decide) (by decide), k18, cf 71 (by decide) (by decide) (by decide), k19, cf 53 (by decide) (by decide) (by decide), k2]
    exact gr_x h4 (fun h hh => ⟨by rw [eM _ (by omega) (by omega)]; exact (h4.1 h hh).1, by rw [eM _ (by omega) (by omega)]; exact (h4.1 h hh).2.1, rfl, eM _ (by omega) (by omega)⟩) (fun g hg => by rw [eM _ (by omega) (by omega)]; exact h4.2.1 g hg) (fun q hq => ⟨rfl, eM _ (by omega) (by omega), eM _ (by omega) (by omega)⟩) (fun _ _ _ => rfl) (fun k k1 k2 k3 => eM k (by omega) (by omega)) ⟨eM 3 (by decide) (by omega), fun g _ _ => eM _ (by omega) (by omega)⟩
  · have hb : ∀ x, x < 4 → cnN sM x ≤ 8 ∧ (2 ≤ x → cnN sM x ≤ 4) := by
      have b := h3.2.1
      have d0 : mN sM 0 = sM.1 1 1920 := rfl
      have d1 : mN sM 1 = sM.1 1 1921 := rfl
      have d2 : mN sM 2 = sM.1 1 1922 := rfl
      have d3 : mN sM 3 = sM.1 1 1923 := rfl
      rw [d0, d1, d2, d3] at b
      refine u4 ?_ ?_ ?_ ?_
      · show (sM.1 1 1920).toInt.toNat ≤ 8 ∧ (2 ≤ 0 → (sM.1 1 1920).toInt.toNat ≤ 4)
        omega
      · show (sM.1 1 1921).toInt.toNat ≤ 8 ∧ (2 ≤ 1 → (sM.1 1 1921).toInt.toNat ≤ 4)
        omega
      · show (sM.1 1 1922).toInt.toNat ≤ 8 ∧ (2 ≤ 2 → (sM.1 1 1922).toInt.toNat ≤ 4)
        omega
      · show (sM.1 1 1923).toInt.toNat ≤ 8 ∧ (2 ≤ 3 → (sM.1 1 1923).toInt.toNat ≤ 4)
        omega
    have c1 : cnN (pI t 1 1921 ((t.1 1 1921) + 1)) 1 = cnN sM 1 + 1 := by
      show ((pI t 1 1921 ((t.1 1 1921) + 1)).1 1 1921).toInt.toNat = (sM.1 1 1921).toInt.toNat + 1
      rw [q_eq, m21]
      omega
    have c2 : ∀ z, ¬ z = 1 → cnN (pI t 1 1921 ((t.1 1 1921) + 1)) z = cnN sM z := fun z hz => by
      unfold cnN
      by_cases y : z < 4
      · rw [if_pos y, if_pos y, pI_1, if_neg (fun v => hz (by have := v.2; omega)), w6, if_neg (by omega)]
      · rw [if_neg y, if_neg y]
    have d := nm_done (q := 1) (by decide) (mM := fun _ => 0) h2 hb ⟨c1, c2⟩
    have nn : nmN (pI t 1 1921 ((t.1 1 1921) + 1)) = nmN sM := by
      unfold nmN
      have : (pI t 1 1921 ((t.1 1 1921) + 1)).2 2 = sM.2 2 := funext fun k => fr_e2 w3 2 k 2 rfl rfl
      rw [this]
    unfold NmS
    rw [nn, cf 56 (by decide) (by decide) (by decide), k4, cf 57 (by decide) (by decide) (by decide), k5, c52 12 (by decide), e2, k3]
    exact d
