/-! texts: a quarrel, a cat, a grocer in work -/
def WkT (n q : Nat) (x : Int32) (sC sM : Sg) : Prop := SB n sC sM ∧ NmP q sC sM ∧ PlanS 0 sC sM ∧ GrS sC sM ∧ sM.1 1 (1920 + q) = x ∧ (0 ≤ x.toInt ∧ x.toInt < 8 ∧ (2 ≤ q → x.toInt < 4))
theorem wk_of {n q : Nat} {sC sM s t : Sg} (hq : q < 4) (g : NwT n q sC sM s t) : WkT n q (sM.1 1 (1920 + q)) s t := by
  obtain ⟨g1, g2, g3, g4, g5, g6⟩ := g
  have e : t.1 1 (1920 + q) = sM.1 1 (1920 + q) := by rw [g6]
  have b := g3.2.1
  have np : cnN t q < 8 ∧ (2 ≤ q → cnN t q < 4) := by
    obtain ⟨N, b, -, -, -, -, -, -, w⟩ := g2
    exact w
  have cq : cnN t q = (t.1 1 (1920 + q)).toInt.toNat := by
    unfold cnN
    rw [if_pos hq]
  rw [cq, e] at np
  have lo : 0 ≤ (sM.1 1 (1920 + q)).toInt := by
    rw [← e]
    have a : q = 0 ∨ q = 1 ∨ q = 2 ∨ q = 3 := by omega
    rcases a with a | a | a | a <;> subst a
    · exact b.1.1
    · exact b.2.1.1
    · exact b.2.2.1.1
    · exact b.2.2.2.1
  exact ⟨g1, g2, g3, g4, e, by omega, by omega, fun h => by have := np.2 h; omega⟩
theorem wk_st {n q : Nat} {x : Int32} {sC sM s t : Sg} (w : StT n sC sM s t) (h : WkT n q x sC sM) : WkT n q x s t := by
  have kp := kp_of w
  exact ⟨kp_sb w h.1, kp_np kp h.2.1, kp_pl kp h.2.2.1, kp_gr kp h.2.2.2.1, by rw [kp.2.1]; exact h.2.2.2.2.1, h.2.2.2.2.2⟩
/-- the places of a row in work -/
def InW (q : Nat) (x : Nat) (k : Nat) : Prop := (q = 1 ∧ 40 + 5 * x ≤ k ∧ k ≤ 42 + 5 * x) ∨ (q = 2 ∧ 80 + 3 * x ≤ k ∧ k ≤ 82 + 3 * x) ∨ (q = 3 ∧ k = 93 + 3 * x)
theorem wk_x {n q : Nat} {x : Int32} {s t s' t' : Sg} (hq : 1 ≤ q ∧ q < 4) (h : WkT n q x s t) (tk : TkRel n s' t') (e0 : s'.1 52 = s.1 52 ∧ s'.2 55 = s.2 55 ∧ s'.1 56 = s.1 56 ∧ s'.1 57 = s.1 57 ∧ s'.1 61 = s.1 61 ∧ s'.1 8 = s.1 8) (e1 : s'.1 53 = s.1 53 ∧ s'.1 67 = s.1 67 ∧ s'.1 68 = s.1 68 ∧ s'.1 69 = s.1 69 ∧ s'.1 70 = s.1 70 ∧ s'.1 71 = s.1 71) (e2 : ∀ k, ¬ (q = 1 ∧ k = x.toNatClampNeg) → s'.1 58 k = s.1 58 k ∧ s'.1 59 k = s.1 59 k ∧ s'.1 60 k = s.1 60 k) (e3 : ∀ k, ¬ (q = 2 ∧ k = x.toNatClampNeg) → s'.1 62 k = s.1 62 k ∧ s'.1 63 k = s.1 63 k ∧ s'.1 64 k = s.1 64 k) (e4 : ∀ k, ¬ (q = 3 ∧ k = x.toNatClampNeg) → s'.1 65 k = s.1 65 k ∧ s'.1 66 k = s.1 66 k) (m0 : t'.2 2 = t.2 2 ∧ t'.1 0 20 = t.1 0 20 ∧ t'.1 0 18 = t.1 0 18) (m1 : ∀ k, ¬ InW q x.toNatClampNeg k → t'.1 1 (1920 + k) = t.1 1 (1920 + k)) : WkT n q x s' t' := by
  obtain ⟨h1, h2, h3, h4, h5, h6⟩ := h
  have cl := cl_nat x
  have eM : ∀ k, ¬ InW q x.toNatClampNeg k → mN t' k = mN t k := m1
  have c0 : cnN t' = cnN t := cn_e (fun k hk => m1 k (by unfold InW; omega))
  have n0 : nmN t' = nmN t := by unfold nmN; rw [m0.1]
  have hM : (mN t q).toInt = x.toInt := by
    show (t.1 1 (1920 + q)).toInt = _
    rw [h5]
  refine ⟨⟨tk, m0.2.2.trans h1.2.1, ?_⟩, ?_, ?_, ?_, (m1 q (by unfold InW; omega)).trans h5, h6⟩
  · unfold ToldS
    rw [e0.2.2.2.2.2, m0.2.1]
    exact h1.2.2
  · unfold NmP at h2 ⊢
    rw [e0.1, e0.2.1, e0.2.2.1, e0.2.2.2.1, c0, n0]
    exact h2
  · unfold PlanS
    rw [e0.1, e0.2.2.2.2.1]
    refine plan_x h3 (fun _ _ _ => rfl) (fun k hk => eM k (by unfold InW; omega)) ⟨h3.2.2.1.1.trans (eM 9 (by unfold InW; omega)).symm, h3.2.2.1.2.1.trans (eM 13 (by unfold InW; omega)).symm, h3.2.2.1.2.2.trans (eM 14 (by unfold InW; omega)).symm⟩ (fun i hi => ?_) (fun _ _ => rfl) (fun i hi => ?_) (fun i hi => ?_)
    · have ne : ¬ (q = 1 ∧ i = x.toNatClampNeg) := fun z => by
        obtain ⟨z1, z2⟩ := z
        subst z1
        omega
      have nb : i < 8 := by
        have := h3.2.1.2.1.2
        omega
      exact ⟨e2 i ne, eM _ (by unfold InW; omega), eM _ (by unfold InW; omega), eM _ (by unfold InW; omega)⟩
    · have ne : ¬ (q = 2 ∧ i = x.toNatClampNeg) := fun z => by
        obtain ⟨z1, z2⟩ := z
        subst z1
        omega
      have nb : i < 4 := by
        have := h3.2.1.2.2.1.2
        omega
      exact ⟨e3 i ne, eM _ (by unfold InW; omega), eM _ (by unfold InW; omega), eM _ (by unfold InW; omega)⟩
    · have ne : ¬ (q = 3 ∧ i = x.toNatClampNeg) := fun z => by
        obtain ⟨z1, z2⟩ := z
        subst z1
        omega
      have nb : i < 4 := by
        have := h3.2.1.2.2.2.2
        omega
      exact ⟨e4 i ne, eM _ (by unfold InW; omega), eM _ (by unfold InW; omega)⟩
  · unfold GrS
    rw [e1.1, e1.2.1, e1.2.2.1, e1.2.2.2.1, e1.2.2.2.2.1, e1.2.2.2.2.2]
    exact gr_x h4 (fun h hh => ⟨by rw [eM _ (by unfold InW; omega)]; exact (h4.1 h hh).1, by rw [eM _ (by unfold InW; omega)]; exact (h4.1 h hh).2.1, rfl, eM _ (by unfold InW; omega)⟩) (fun g hg => by rw [eM _ (by unfold InW; omega)]; exact h4.2.1 g hg) (fun i hi => ⟨rfl, eM _ (by unfold InW; omega), eM _ (by unfold InW; omega)⟩) (fun _ _ _ => rfl) (fun k k1 k2 k3 => eM k (by unfold InW; omega)) ⟨eM 3 (by unfold InW; omega), fun g _ _ => eM _ (by unfold InW; omega)⟩
/-- which house stands at the token: what both find -/
theorem find_e {n q : Nat} {x : Int32} {sC sM : Sg} (hq : 1 ≤ q ∧ q < 4) (h : WkT n q x sC sM) (hk : sC.1 7 3 = 1) {r r' : Int32} {N : Nat} {b : Int64} (hab : NameR (sC.2 7 6) b) (hN : (sC.1 52 12).toInt = (N : Int)) (c : FndC (sC.2 55) (sC.1 56) (sC.1 57) N (sC.2 7 6) 100 r) (m : FndM (sM.2 2) 96 (sM.1 1 1920).toInt.toNat b r') : r = r' ∧ (r = -1 ∨ (0 ≤ r.toInt ∧ r.toInt < (sM.1 1 1920).toInt)) := by
  obtain ⟨N0, b0, w1, w2, w3, ⟨w4, w5⟩, w6, w7, w8⟩ := h.2.1
  have eN : N = N0 + 1 := by omega
  have c' : FndC (sC.2 55) (sC.1 56) (sC.1 57) N0 (sC.2 7 6) (codN 0) r := by
    have n56 : ¬ sC.1 56 N0 = 100 := by
      rw [w4]
      intro z
      have := cod_i (q := q) (q' := 0) hq.2 (by decide) z
      omega
    rcases c with ⟨i, c1, c2, c3, c4⟩ | ⟨c1, c2⟩
    · by_cases z : i = N0
      · subst z
        exact absurd c3 n56
      · exact Or.inl ⟨i, by omega, c2, c3, c4⟩
    · exact Or.inr ⟨fun i hi => c1 i (by omega), c2⟩
  have m' : FndM (nmN sM) (offN 0) (cnN sM 0) b r' := by
    have e : ∀ k, nmN sM (offN 0 + k) = sM.2 2 (96 + k) := fun k => by
      show sM.2 2 (96 + (0 + k)) = _
      rw [Nat.zero_add]
    rcases m with ⟨k, m1, m2, m3⟩ | ⟨m1, m2⟩
    · exact Or.inl ⟨k, m1, by rw [e]; exact m2, m3⟩
    · exact Or.inr ⟨fun k hk => by rw [e]; exact m1 k hk, m2⟩
  refine ⟨fnd_e w3 hab (by decide) c' m', ?_⟩
  have er := fnd_e w3 hab (by decide) c' m'
  rw [er]
  rcases m with ⟨k, m1, m2, m3⟩ | ⟨m1, m2⟩
  · right
    omega
  · exact Or.inl m2
