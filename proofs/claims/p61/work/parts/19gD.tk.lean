/-! texts: the plan, seen through its relevant cells -/
theorem qat_x {on ot on' ot' : Nat → Int32} (h : Nat) : ∀ n : Nat, (∀ q, q < n → on' q = on q ∧ ot' q = ot q) → qat on' ot' n h = qat on ot n h
  | 0, _ => rfl
  | n + 1, e => by
    have g := qat_x h n (fun q hq => e q (by omega))
    have f := e n (by omega)
    unfold qat
    rw [g, f.1, f.2]
theorem plan_x {d : Int} {pf on ot ne qa fr to ta pr sw M pf' on' ot' ne' qa' fr' to' ta' pr' sw' M' : Nat → Int32} (h : PlanA d pf on ot ne qa fr to ta pr sw M) (epf : ∀ k, 13 ≤ k → k ≤ 16 → pf' k = pf k) (eM : ∀ k, k < 4 → M' k = M k) (e5 : pf' 17 = M' 9 ∧ pf' 18 = M' 13 ∧ pf' 19 = M' 14) (eq : ∀ q : Nat, (q : Int) < (M 1).toInt → (on' q = on q ∧ ot' q = ot q ∧ ne' q = ne q) ∧ M' (40 + 5 * q) = M (40 + 5 * q) ∧ M' (41 + 5 * q) = M (41 + 5 * q) ∧ M' (42 + 5 * q) = M (42 + 5 * q)) (ea : ∀ h, h < 8 → qa' h = qa h) (ec : ∀ c : Nat, (c : Int) < (M 2).toInt → (fr' c = fr c ∧ to' c = to c ∧ ta' c = ta c) ∧ M' (80 + 3 * c) = M (80 + 3 * c) ∧ M' (81 + 3 * c) = M (81 + 3 * c) ∧ M' (82 + 3 * c) = M (82 + 3 * c)) (eg : ∀ g : Nat, (g : Int) < (M 3).toInt → (pr' g = pr g ∧ sw' g = sw g) ∧ M' (93 + 3 * g) = M (93 + 3 * g) ∧ M' (94 + 3 * g) = M (94 + 3 * g)) : PlanA d pf' on' ot' ne' qa' fr' to' ta' pr' sw' M' := by
  obtain ⟨⟨h1, h2, h3, h4⟩, hb, ⟨h5, h6, h7⟩, hq, ha, hc, hg⟩ := h
  have m0 := eM 0 (by decide)
  have m1 := eM 1 (by decide)
  have m2 := eM 2 (by decide)
  have m3 := eM 3 (by decide)
  unfold PlanA
  rw [m0, m1, m2, m3, epf 13 (by decide) (by decide), epf 14 (by decide) (by decide), epf 15 (by decide) (by decide), epf 16 (by decide) (by decide)]
  refine ⟨⟨h1, h2, h3, h4⟩, hb, e5, fun q k => ?_, fun x k => ?_, fun c k => ?_, fun g k => ?_⟩
  · have e := eq q k
    rw [e.1.1, e.1.2.1, e.1.2.2, e.2.1, e.2.2.1, e.2.2.2]
    exact hq q k
  · rw [ea x k, qat_x x _ (fun q z => ⟨(eq q (by omega)).1.1, (eq q (by omega)).1.2.1⟩)]
    exact ha x k
  · have e := ec c k
    rw [e.1.1, e.1.2.1, e.1.2.2, e.2.1, e.2.2.1, e.2.2.2]
    exact hc c k
  · have e := eg g k
    rw [e.1.1, e.1.2, e.2.1, e.2.2]
    exact hg g k
theorem gr_x {sa su sn wa st gf M sa' su' sn' wa' st' gf' M' : Nat → Int32} (h : GrA sa su sn wa st gf M) (eh : ∀ h : Nat, h < 8 → sa' h = M' (16 + 3 * h) ∧ su' h = M' (17 + 3 * h) ∧ sn' h = sn h ∧ M' (18 + 3 * h) = M (18 + 3 * h)) (eg : ∀ g : Nat, g < 4 → st' g = M' (92 + 3 * g)) (eq : ∀ q : Nat, q < 8 → wa' q = wa q ∧ M' (43 + 5 * q) = M (43 + 5 * q) ∧ M' (44 + 5 * q) = M (44 + 5 * q)) (ef : ∀ k : Nat, 5 ≤ k → k ≤ 12 → gf' k = gf k) (eM : ∀ k, 4 ≤ k → k ≤ 12 → ¬ k = 9 → M' k = M k) (e6 : M' 3 = M 3 ∧ ∀ g : Nat, g < 4 → (M 3).toInt ≤ (g : Int) → M' (94 + 3 * g) = M (94 + 3 * g)) : GrA sa' su' sn' wa' st' gf' M' := by
  obtain ⟨h1, h2, h3, h4, h5, h6⟩ := h
  refine ⟨fun x k => ?_, eg, fun q k => ?_, fun k k1 k2 => ?_, ?_, fun g g1 g2 => by rw [e6.1] at g2; rw [e6.2 g g1 g2]; exact h6 g g1 g2⟩
  · have e := eh x k
    have g := h1 x k
    exact ⟨e.1, e.2.1, e.2.2.1.trans g.2.2.1, e.2.2.2.trans g.2.2.2⟩
  · have e := eq q k
    have g := h3 q k
    exact ⟨e.1.trans g.1, e.2.1.trans g.2.1, e.2.2.trans g.2.2⟩
  · rw [ef k k1 k2]; exact h4 k k1 k2
  · rw [eM 4 (by decide) (by decide) (by decide), eM 5 (by decide) (by decide) (by decide), eM 6 (by decide) (by decide) (by decide), eM 7 (by decide) (by decide) (by decide), eM 8 (by decide) (by decide) (by decide), eM 10 (by decide) (by decide) (by decide), eM 11 (by decide) (by decide) (by decide), eM 12 (by decide) (by decide) (by decide)]
    exact h5
/-- in a house: its index, its name pending, counted by the class already -/
def HsT (n : Nat) (x : Int32) (sC sM : Sg) : Prop := SB n sC sM ∧ NmP 0 sC sM ∧ PlanS 1 sC sM ∧ GrS sC sM ∧ sM.1 1 1920 = x ∧ (0 ≤ x.toInt ∧ x.toInt < 8)
theorem hs_st {n : Nat} {x : Int32} {sC sM s t : Sg} (w : StT n sC sM s t) (h : HsT n x sC sM) : HsT n x s t := by
  have kp := kp_of w
  exact ⟨kp_sb w h.1, kp_np kp h.2.1, kp_pl kp h.2.2.1, kp_gr kp h.2.2.2.1, by rw [kp.2.1]; exact h.2.2.2.2.1, h.2.2.2.2.2⟩
/-- a number into one of a house's grains: on both sides -/
theorem hs_nu {n j : Nat} {x : Int32} {lo hi : Int} {sC sM s t : Sg} (h : HsT n x sC sM) (hj : j < 2) (w : NuT n lo hi (1936 + 3 * x.toNatClampNeg + j) sC sM s t) : HsT n x (pI s (67 + j) x.toNatClampNeg (s.1 7 7)) t := by
  obtain ⟨h1, h2, h3, h4, h5, h6⟩ := h
  obtain ⟨w1, w2, w3, w4, w5, w6⟩ := w
  have cl := cl_nat x
  have hx : x.toNatClampNeg < 8 := by omega
  have jc : j = 0 ∨ j = 1 := by omega
  obtain ⟨⟨k1, k2, k3, k4, k5, k6, k7, k8, k9, k10, k11, k12⟩, k13, k14, k15, k16, k17, k18, k19, k20⟩ := kc_of w2
  have ec : ∀ c k, ¬ c = 67 + j → (pI s (67 + j) x.toNatClampNeg (s.1 7 7)).1 c k = s.1 c k := fun c k hc => by rw [pI_1, if_neg (fun z => hc z.1)]
  have ef : ∀ c, ¬ c = 67 + j → (pI s (67 + j) x.toNatClampNeg (s.1 7 7)).1 c = s.1 c := fun c hc => funext fun k => ec c k hc
  have eM : ∀ k, ¬ k = 16 + 3 * x.toNatClampNeg + j → mN t k = mN sM k := fun k hk => by
    unfold mN
    rw [w6, if_neg (by omega)]
  have m2 : t.2 2 = sM.2 2 := funext fun k => fr_e2 w3 2 k 2 rfl rfl
  have c0 : cnN t = cnN sM := cn_e (fun k hk => by rw [w6, if_neg (by omega)])
  have n0 : nmN t = nmN sM := by unfold nmN; rw [m2]
  have e55 : (pI s (67 + j) x.toNatClampNeg (s.1 7 7)).2 55 = sC.2 55 := k3
  refine ⟨⟨?_, ?_, ?_⟩, ?_, ?_, ?_, ?_, h6⟩
  · refine tk_f (L1 := LT67) (L2 := 0) w1 ?_ fr_r rfl rfl
    rcases jc with e | e <;> subst e
    · exact fr_i fr_r 67 rfl rfl
    · exact fr_i fr_r 68 rfl rfl
  · rw [fr_e w3 0 18 38 rfl rfl]; exact h1.2.1
  · unfold ToldS
    rw [ec 8 3 (by omega), ec 8 4 (by omega), k20, fr_e w3 0 20 40 rfl rfl]
    exact h1.2.2
  · unfold NmP at h2 ⊢
    rw [(ef 52 (by omega)).trans k1, e55, (ef 56 (by omega)).trans k4, (ef 57 (by omega)).trans k5, c0, n0]
    exact h2
  · unfold PlanS
    rw [(ef 52 (by omega)).trans k1, (ef 58 (by omega)).trans k6, (ef 59 (by omega)).trans k7, (ef 60 (by omega)).trans k8, (ef 61 (by omega)).trans k9, (ef 62 (by omega)).trans k10, (ef 63 (by omega)).trans k11, (ef 64 (by omega)).trans k12, (ef 65 (by omega)).trans k13, (ef 66 (by omega)).trans k14]
    exact plan_x h3 (fun _ _ _ => rfl) (fun k hk => eM k (by omega)) ⟨h3.2.2.1.1.trans (eM 9 (by omega)).symm, h3.2.2.1.2.1.trans (eM 13 (by omega)).symm, h3.2.2.1.2.2.trans (eM 14 (by omega)).symm⟩ (fun q _ => ⟨⟨rfl, rfl, rfl⟩, eM _ (by omega), eM _ (by omega), eM _ (by omega)⟩) (fun _ _ => rfl) (fun c _ => ⟨⟨rfl, rfl, rfl⟩, eM _ (by omega), eM _ (by omega), eM _ (by omega)⟩) (fun g _ => ⟨⟨rfl, rfl⟩, eM _ (by omega), eM _ (by omega)⟩)
  · unfold GrS
    rw [(ef 69 (by omega)).trans k17, (ef 70 (by omega)).trans k18, (ef 71 (by omega)).trans k19, (ef 53 (by omega)).trans k2]
    refine gr_x h4 (fun h hh => ⟨?_, ?_, rfl, eM _ (by omega)⟩) (fun g hg => ?_) (fun q _ => ⟨rfl, eM _ (by omega), eM _ (by omega)⟩) (fun _ _ _ => rfl) (fun k k1 k2 k3 => eM k (by omega)) ⟨eM 3 (by omega), fun g _ _ => eM _ (by omega)⟩
    · rcases jc with e | e <;> subst e
      · rw [pI_1]
        by_cases z : h = x.toNatClampNeg
        · rw [if_pos ⟨rfl, z⟩]
          unfold mN
          rw [w6, if_pos (by omega)]
        · rw [if_neg (fun y => z y.2), eM _ (by omega), k15]
          exact (h4.1 h hh).1
      · rw [ec 67 h (by omega), eM _ (by omega), k15]
        exact (h4.1 h hh).1
    · rcases jc with e | e <;> subst e
      · rw [ec 68 h (by omega), eM _ (by omega), k16]
        exact (h4.1 h hh).2.1
      · rw [pI_1]
        by_cases z : h = x.toNatClampNeg
        · rw [if_pos ⟨rfl, z⟩]
          unfold mN
          rw [w6, if_pos (by omega)]
        · rw [if_neg (fun y => z y.2), eM _ (by omega), k16]
          exact (h4.1 h hh).2.1
    · rw [eM _ (by omega)]
      exact h4.2.1 g hg
  · rw [w6, if_neg (by omega)]; exact h5
