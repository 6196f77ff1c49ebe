/-! texts: a quarrel, a cat, a grocer in work -/
def WkT (n q : Nat) (x : Int32) (sC sM : Sg) : Prop := SB n sC sM ∧ NmP q sC sM ∧ PlanS 0 sC sM ∧ GrS sC sM ∧ sM.1 1 (1920 + q) = x ∧ (0 ≤ x.toInt ∧ x.toInt < 8 ∧ (2 ≤ q → x.toInt < 4))
theorem wk_of {n q : Nat} {sC sM s t : Sg} (hq : q < 4) (g : NwT n q sC sM s t) : WkT n q (sM.1 1 (1920 + q)) s t := by
  obtain ⟨g1, g2, g3, g4, g5, g6⟩ := g
  have e : t.1 1 (1920 + q) = sM.1 1 (1920 + q) := by rw [g6]
  have b := g3.2.1
  have np : cnN t q < 8 ∧ (2 ≤ q → cnN t q < 4) := by
    obtain ⟨N, b, -, -, -, -, -, -, w⟩ := g2
    exact w
  have cq : cnN t q = (t.1 1 (1920 + q)).toInt.toNat := by
    unfold cnN
    rw [if_pos hq]
  rw [cq, e] at np
  have lo : 0 ≤ (sM.1 1 (1920 + q)).toInt := by
    rw [← e]
    have a : q = 0 ∨ q = 1 ∨ q = 2 ∨ q = 3 := by omega
    rcases a with a | a | a | a <;> subst a
    · exact b.1.1
    · exact b.2.1.1
    · exact b.2.2.1.1
    · exact b.2.2.2.1
  exact ⟨g1, g2, g3, g4, e, by omega, by omega, fun h => by have := np.2 h; omega⟩
theorem wk_st {n q : Nat} {x : Int32} {sC sM s t : Sg} (w : StT n sC sM s t) (h : WkT n q x sC sM) : WkT n q x s t := by
  have kp := kp_of w
  exact ⟨kp_sb w h.1, kp_np kp h.2.1, kp_pl kp h.2.2.1, kp_gr kp h.2.2.2.1, by rw [kp.2.1]; exact h.2.2.2.2.1, h.2.2.2.2.2⟩
/-- the places of a row in work -/
def InW (q : Nat) (x : Nat) (k : Nat) : Prop := (q = 1 ∧ 40 + 5 * x ≤ k ∧ k ≤ 42 + 5 * x) ∨ (q = 2 ∧ 80 + 3 * x ≤ k ∧ k ≤ 82 + 3 * x) ∨ (q = 3 ∧ k = 93 + 3 * x)
theorem wk_x {n q : Nat} {x : Int32} {s t s' t' : Sg} (hq : 1 ≤ q ∧ q < 4) (h : WkT n q x s t) (tk : TkRel n s' t') (e0 : s'.1 52 = s.1 52 ∧ s'.2 55 = s.2 55 ∧ s'.1 56 = s.1 56 ∧ s'.1 57 = s.1 57 ∧ s'.1 61 = s.1 61 ∧ s'.1 8 = s.1 8) (e1 : s'.1 53 = s.1 53 ∧ s'.1 67 = s.1 67 ∧ s'.1 68 = s.1 68 ∧ s'.1 69 = s.1 69 ∧ s'.1 70 = s.1 70 ∧ s'.1 71 = s.1 71) (e2 : ∀ k, ¬ (q = 1 ∧ k = x.toNatClampNeg) → s'.1 58 k = s.1 58 k ∧ s'.1 59 k = s.1 59 k ∧ s'.1 60 k = s.1 60 k) (e3 : ∀ k, ¬ (q = 2 ∧ k = x.toNatClampNeg) → s'.1 62 k = s.1 62 k ∧ s'.1 63 k = s.1 63 k ∧ s'.1 64 k = s.1 64 k) (e4 : ∀ k, ¬ (q = 3 ∧ k = x.toNatClampNeg) → s'.1 65 k = s.1 65 k ∧ s'.1 66 k = s.1 66 k) (m0 : t'.2 2 = t.2 2 ∧ t'.1 0 20 = t.1 0 20 ∧ t'.1 0 18 = t.1 0 18) (m1 : ∀ k, ¬ InW q x.toNatClampNeg k → t'.1 1 (1920 + k) = t.1 1 (1920 + k)) : WkT n q x s' t' := by
  obtain ⟨h1, h2, h3, h4, h5, h6⟩ := h
  have cl := cl_nat x
  have eM : ∀ k, ¬ InW q x.toNatClampNeg k → mN t' k = mN t k := m1
  have c0 : cnN t' = cnN t := cn_e (fun k hk => m1 k (by unfold InW; omega))
  have n0 : nmN t' = nmN t := by unfold nmN; rw [m0.1]
  have hM : (mN t q).toInt = x.toInt := by
    show (t.1 1 (1920 + q)).toInt = _
    rw [h5]
  refine ⟨⟨tk, m0.2.2.trans h1.2.1, ?_⟩, ?_, ?_, ?_, (m1 q (by unfold InW; omega)).trans h5, h6⟩
  · unfold ToldS
    rw [e0.2.2.2.2.2, m0.2.1]
    exact h1.2.2
  · unfold NmP at h2 ⊢
    rw [e0.1, e0.2.1, e0.2.2.1, e0.2.2.2.1, c0, n0]
    exact h2
  · unfold PlanS
    rw [e0.1, e0.2.2.2.2.1]
    refine plan_x h3 (fun _ _ _ => rfl) (fun k hk => eM k (by unfold InW; omega)) ⟨h3.2.2.1.1.trans (eM 9 (by unfold InW; omega)).symm, h3.2.2.1.2.1.trans (eM 13 (by unfold InW; omega)).symm, h3.2.2.1.2.2.trans (eM 14 (by unfold InW; omega)).symm⟩ (fun i hi => ?_) (fun _ _ => rfl) (fun i hi => ?_) (fun i hi => ?_)
    · have ne : ¬ (q = 1 ∧ i = x.toNatClampNeg) := fun z => by
        obtain ⟨z1, z2⟩ := z
        subst z1
        omega
      have nb : i < 8 := by
        have := h3.2.1.2.1.2
        omega
      exact ⟨e2 i ne, eM _ (by unfold InW; omega), eM _ (by unfold InW; omega), eM _ (by unfold InW; omega)⟩
    · have ne : ¬ (q = 2 ∧ i = x.toNatClampNeg) := fun z => by
        obtain ⟨z1, z2⟩ := z
        subst z1
        omega
      have nb : i < 4 := by
        have := h3.2.1.2.2.1.2
        omega
      exact ⟨e3 i ne, eM _ (by unfold InW; omega), eM _ (by unfold InW; omega), eM _ (by unfold InW; omega)⟩
    · have ne : ¬ (q = 3 ∧ i = x.toNatClampNeg) := fun z => by
        obtain ⟨z1, z2⟩ := z
        subst z1
        omega
      have nb : i < 4 := by
        have := h3.2.1.2.2.2.2
        omega
      exact ⟨e4 i ne, eM _ (by unfold InW; omega), eM _ (by unfold InW; omega)⟩
  · unfold GrS
    rw [e1.1, e1.2.1, e1.2.2.1, e1.2.2.2.1, e1.2.2.2.2.1, e1.2.2.2.2.2]
    exact gr_x h4 (fun h hh => ⟨by rw [eM _ (by unfold InW; omega)]; exact (h4.1 h hh).1, by rw [eM _ (by unfold InW; omega)]; exact (h4.1 h hh).2.1, rfl, eM _ (by unfold InW; omega)⟩) (fun g hg => by rw [eM _ (by unfold InW; omega)]; exact h4.2.1 g hg) (fun i hi => ⟨rfl, eM _ (by unfold InW; omega), eM _ (by unfold InW; omega)⟩) (fun _ _ _ => rfl) (fun k k1 k2 k3 => eM k (by unfold InW; omega)) ⟨eM 3 (by unfold InW; omega), fun g _ _ => eM _ (by unfold InW; omega)⟩
/-- which house stands at the token: what both find -/
theorem find_e {n q : Nat} {x : Int32} {sC sM : Sg} (hq : 1 ≤ q ∧ q < 4) (h : WkT n q x sC sM) (hk : sC.1 7 3 = 1) {r r' : Int32} {N : Nat} {b : Int64} (hab : NameR (sC.2 7 6) b) (hN : (sC.1 52 12).toInt = (N : Int)) (c : FndC (sC.2 55) (sC.1 56) (sC.1 57) N (sC.2 7 6) 100 r) (m : FndM (sM.2 2) 96 (sM.1 1 1920).toInt.toNat b r') : r = r' ∧ (r = -1 ∨ (0 ≤ r.toInt ∧ r.toInt < (sM.1 1 1920).toInt)) := by
  obtain ⟨N0, b0, w1, w2, w3, ⟨w4, w5⟩, w6, w7, w8⟩ := h.2.1
  have eN : N = N0 + 1 := by omega
  have c' : FndC (sC.2 55) (sC.1 56) (sC.1 57) N0 (sC.2 7 6) (codN 0) r := by
    have n56 : ¬ sC.1 56 N0 = 100 := by
      rw [w4]
      intro z
      have := cod_i (q := q) (q' := 0) hq.2 (by decide) z
      omega
    rcases c with ⟨i, c1, c2, c3, c4⟩ | ⟨c1, c2⟩
    · by_cases z : i = N0
      · subst z
        exact absurd c3 n56
      · exact Or.inl ⟨i, by omega, c2, c3, c4⟩
    · exact Or.inr ⟨fun i hi => c1 i (by omega), c2⟩
  have m' : FndM (nmN sM) (offN 0) (cnN sM 0) b r' := by
    have e : ∀ k, nmN sM (offN 0 + k) = sM.2 2 (96 + k) := fun k => by
      show sM.2 2 (96 + (0 + k)) = _
      rw [Nat.zero_add]
    rcases m with ⟨k, m1, m2, m3⟩ | ⟨m1, m2⟩
    · exact Or.inl ⟨k, m1, by rw [e]; exact m2, m3⟩
    · exact Or.inr ⟨fun k hk => by rw [e]; exact m1 k hk, m2⟩
  refine ⟨fnd_e w3 hab (by decide) c' m', ?_⟩
  have er := fnd_e w3 hab (by decide) c' m'
  rw [er]
  rcases m with ⟨k, m1, m2, m3⟩ | ⟨m1, m2⟩
  · right
    omega
  · exact Or.inl m2
/-! texts: one end of a row: a house that is there, on both sides -/
theorem has_p (a0 a1 : Int32) (s : Sg) : PQ (f_X11_has a0 a1 s) (fun r t => t = s ∧ ((r = 1 ∧ ¬ ((a0 >>> (a1 &&& 31)) &&& 1) = 0) ∨ (r = 0 ∧ ¬ ¬ ((a0 >>> (a1 &&& 31)) &&& 1) = 0))) := by
  unfold f_X11_has
  exact pq_if (fun c => pq_s ⟨rfl, Or.inr ⟨rfl, fun w => w c⟩⟩) (fun c => pq_s ⟨rfl, Or.inl ⟨rfl, c⟩⟩)
abbrev LT58 : Nat := 196159429230833773869868419475239575503486838015652790272
abbrev LT59 : Nat := 196159429230833773869868419475239575503775068391804502016
abbrev LT62 : Nat := 196159429230833773869868419475239575507810293657928466432
abbrev LT63 : Nat := 196159429230833773869868419475239575512421979676355854336
theorem end58_r {n q : Nat} {x : Int32} (hq : 1 ≤ q ∧ q < 4) (hqc : q = 1) {sC sM : Sg} (h : WkT n q x sC sM) {p0 : Int} (hp : p0 ≤ (sC.1 7 4).toInt) (a3 a4 v1 v2 v3 v4 : Int32) (P : Nat) (hP : (v1 + v4).toNatClampNeg = 1920 + P) (hin : InW q x.toNatClampNeg P) (hv4 : v4 = 0 ∨ v4 = 1) (k : Int32 → Int32 → Int32 → Int32 → Sg → Option (Int32 × Sg)) (bad : ∀ r : Int32, 0 ≤ r.toInt → r.toInt < (sM.1 1 1920).toInt → ((r = a3 ∨ ¬ ((a4 >>> (r &&& 31)) &&& 1) = 0) ↔ ((¬ v3 = 0 ∧ (((sM.1 1 1929) >>> (r &&& 31)) &&& 1) = 1) ∨ (v4 = 1 ∧ r = sM.1 1 v1.toNatClampNeg)))) {G : Sg → Sg → Prop} {K : Int32 → Sg → Option (Int32 × Sg)} (hK : K0 K) (KC : Sg → Option (Int32 × Sg)) (hk : ∀ (r : Int32) (s t : Sg), WkT n q x s t → p0 ≤ (s.1 7 4).toInt → (s.1 58 x.toNatClampNeg = r ∧ t.1 1 (1920 + P) = r ∧ 0 ≤ r.toInt ∧ r.toInt < (sM.1 1 1920).toInt ∧ ¬ (v4 = 1 ∧ r = sM.1 1 v1.toNatClampNeg)) → (∀ c, 58 ≤ c → c ≤ 66 → ¬ c = 58 → s.1 c = sC.1 c) → (∀ j, ¬ j = 1920 + P → t.1 1 j = sM.1 1 j) → s.1 52 = sC.1 52 → RQ (KC s) (bd (if v4 = 0 then bd (f_X12_wantWord_1001 v2 t) (fun r5 s6 => if r5 = 0 then some (0, s6) else k v1 v2 v3 (v4 + 1) s6) else k v1 v2 v3 (v4 + 1) t) K) (Og G)) : RQ (bd (f_X6_takeEnd_58 x a3 a4 sC) (fun r s => if r = 0 then some (0, s) else KC s)) (bd (bd (f_X12_houseHere sM) (fun r1 s2 => if r1 = (-1) then f_X12_twoHouses_b65 k v1 v2 v3 v4 s2 else if v3 = 0 then f_X12_twoHouses_b42 k v1 v2 v3 v4 r1 s2 else if (((s2.1 1 1929) >>> (r1 &&& 31)) &&& 1) = 1 then bd (f_X12_fails 5 s2) (fun r10 s11 => ck (r10 = 0 ∨ r10 = 1) (some (r10, s11))) else f_X12_twoHouses_b42 k v1 v2 v3 v4 r1 s2)) K) (Og G) := by
  have tk := h.1.1
  have h0 := h.1.2.1
  have b0 : 0 ≤ (sM.1 1 1920).toInt ∧ (sM.1 1 1920).toInt ≤ 8 := h.2.2.1.2.1.1
  unfold f_X6_takeEnd_58 f_X7_findName_52 f_X12_houseHere
  refine rm_b (rm_b (rq_bM (name_r tk) (fun r1 s2 g => ?_)))
  obtain ⟨es, g⟩ := g
  subst es
  refine rc_b (rc_i (fun c => ?_) (fun c => ?_))
  rotate_left
  · -- no name
    refine rm_i (fun _ => ?_) (fun d => absurd (r1_y g d) c)
    refine rm_s (rm_i (fun _ => ?_) (fun w => absurd rfl w))
    unfold f_X12_twoHouses_b65 f_X12_oldOne
    refine rm_b (rm_b (rq_bM (name_r tk) (fun r1 s3 g1 => ?_)))
    obtain ⟨es, g1⟩ := g1
    subst es
    refine rm_i (fun _ => ?_) (fun d => absurd (r1_y g1 d) c)
    refine rc_b (rm_b (rq_b2 (fails_r tk h0 2 (by decide)) (fun r s r' t g3 => ?_)))
    obtain ⟨z, z', g3⟩ := g3
    subst z; subst z'
    refine rc_c (fun _ => rm_c (fun _ => rc_s (rm_s ?_)))
    refine rc_i (fun _ => rm_i (fun _ => ?_) (fun w => absurd rfl w)) (fun w => absurd rfl w)
    refine rc_s (rm_s ?_)
    rw [if_pos rfl, hK t]
    exact rq_s (Or.inr ⟨rfl, rfl, g3⟩)
  obtain ⟨b, hab, hbn⟩ := here_r tk c
  obtain ⟨N0, b1, w1, w2, -⟩ := h.2.1
  have hN : (sC.1 52 12).toInt = ((N0 + 1 : Nat) : Int) := by omega
  have fnd := fh_p b s2 hbn 96 (s2.1 1 1920).toInt.toNat (by omega) 96 (s2.1 1 1920) rfl (by omega)
  refine rc_b (rq_bC (no_p2 (sC.2 7 6) 100 (N0 + 1) sC hN (by omega)) (fun r s gC => ?_))
  obtain ⟨es, gC⟩ := gC
  subst es
  refine rm_i (fun d => absurd c (r1_n g d)) (fun _ => rm_b (rq_bM fnd (fun r3 s4 gM => rm_s ?_)))
  obtain ⟨es, gM⟩ := gM
  subst es
  have fe := find_e hq h c hab hN gC gM
  obtain ⟨er, fr⟩ := fe
  have e77 : (pI s 7 7 r).1 7 7 = r := q_eq
  have tk7 : ∀ v p w, TkRel n (pI s 7 7 v) (pI s4 1 p w) := fun v p w => tk_f (L1 := 2 ^ 187) (L2 := 2 ^ 1) tk (fr_x 187 rfl) (fr_x 1 rfl) (m_and rfl) (m_and rfl)
  have tk70 : TkRel n (pI s 7 7 r) s4 := tk_f (L1 := 2 ^ 187) (L2 := 0) tk (fr_x 187 rfl) fr_r (m_and rfl) rfl
  rw [e77]
  -- the reference asks once more
  have old : ∀ (KX : Int32 → Sg → Option (Int32 × Sg)) (oC : Option (Int32 × Sg)), (r = -1 → RQ oC (bd (bd (f_X12_fails 3 (pI s4 1 (1920 + P) r)) (fun r8 s9 => ck (r8 = 0 ∨ r8 = 1) (some (r8, s9)))) KX) (Og G)) → (¬ r = -1 → RQ oC (bd (bd (f_X12_ahead (pI s4 1 (1920 + P) r)) (fun _ s11 => some (1, s11))) KX) (Og G)) → RQ oC (bd (f_X12_oldOne 96 (s4.1 1 1920) (v1 + v4) s4) KX) (Og G) := by
    intro KX oC hx3 hx4
    unfold f_X12_oldOne
    refine rm_b (rq_bM (name_r tk) (fun r1 s3 g1 => ?_))
    obtain ⟨es, g1⟩ := g1
    subst es
    refine rm_i (fun d => absurd c (r1_n g1 d)) (fun _ => rm_b (rq_bM fnd (fun r5 s6 gM2 => ?_)))
    obtain ⟨es, gM2⟩ := gM2
    subst es
    have e5 := (find_e hq h c hab hN gC gM2).1
    subst e5
    refine rm_c (fun _ => rm_i (fun z => ?_) (fun z => ?_))
    · rw [hP]
      exact hx3 (q_eq.symm.trans z)
    · rw [hP]
      exact hx4 (fun y => z (q_eq.trans y))
  rcases fr with fr | fr
  · -- no such house
    refine rc_i (fun _ => ?_) (fun w => absurd fr w)
    rw [← er, fr]
    refine rm_i (fun _ => ?_) (fun w => absurd rfl w)
    unfold f_X12_twoHouses_b65
    refine rm_b (old _ _ (fun _ => ?_) (fun w => absurd fr w))
    refine rc_b (rm_b (rq_b2 (fails_r (tk7 _ _ _) (by rw [q_nc rfl]; exact h0) 3 (by decide)) (fun r s r' t g3 => ?_)))
    obtain ⟨z, z', g3⟩ := g3
    subst z; subst z'
    refine rc_i (fun _ => rm_c (fun _ => rc_s (rm_s ?_))) (fun w => absurd rfl w)
    refine rc_i (fun _ => rm_i (fun _ => ?_) (fun w => absurd rfl w)) (fun w => absurd rfl w)
    refine rc_s (rm_s ?_)
    rw [if_pos rfl, hK t]
    exact rq_s (Or.inr ⟨rfl, rfl, g3⟩)
  · have nm1 : ¬ r = -1 := fun e => by
      rw [e] at fr
      exact absurd fr.1 (by decide)
    have bd5 := bad r fr.1 fr.2
    refine rc_i (fun w => absurd w nm1) (fun _ => rc_s ?_)
    refine rc_i (fun z => absurd z i10) (fun _ => ?_)
    rw [← er, e77]
    have ff : ∀ KX : Sg → Option (Int32 × Sg), RQ (bd (bd (f_X7_wrong 5 (pI s 7 7 r)) (fun r3 s4 => ck (r3 = 0 ∨ r3 = 1) (some (r3, s4)))) (fun r s => if r = 0 then some (0, s) else KX s)) (bd (bd (f_X12_fails 5 s4) (fun r10 s11 => ck (r10 = 0 ∨ r10 = 1) (some (r10, s11)))) K) (Og G) := by
      intro KX
      refine rc_b (rm_b (rq_b2 (fails_r tk70 h0 5 (by decide)) (fun r s r' t g3 => ?_)))
      obtain ⟨z, z', g3⟩ := g3
      subst z; subst z'
      refine rc_c (fun _ => rm_c (fun _ => rc_s (rm_s ?_)))
      rw [if_pos rfl, hK t]
      exact rq_s (Or.inr ⟨rfl, rfl, g3⟩)
    by_cases hb : r = a3 ∨ ¬ ((a4 >>> (r &&& 31)) &&& 1) = 0
    · -- not allowed
      have hm := bd5.mp hb
      have cls : RQ (bd (bd (f_X7_wrong 5 (pI s 7 7 r)) (fun r3 s4 => ck (r3 = 0 ∨ r3 = 1) (some (r3, s4)))) (fun r s => if r = 0 then some (0, s) else KC s)) (bd (if v3 = 0 then f_X12_twoHouses_b42 k v1 v2 v3 v4 r s4 else if (((s4.1 1 1929) >>> (r &&& 31)) &&& 1) = 1 then bd (f_X12_fails 5 s4) (fun r10 s11 => ck (r10 = 0 ∨ r10 = 1) (some (r10, s11))) else f_X12_twoHouses_b42 k v1 v2 v3 v4 r s4) K) (Og G) := by
        have b42 : v4 = 1 ∧ r = s4.1 1 v1.toNatClampNeg → RQ (bd (bd (f_X7_wrong 5 (pI s 7 7 r)) (fun r3 s4 => ck (r3 = 0 ∨ r3 = 1) (some (r3, s4)))) (fun r s => if r = 0 then some (0, s) else KC s)) (bd (f_X12_twoHouses_b42 k v1 v2 v3 v4 r s4) K) (Og G) := fun w => by
          unfold f_X12_twoHouses_b42
          exact rm_i (fun _ => rm_c (fun _ => rm_i (fun _ => ff KC) (fun z => absurd w.2 z))) (fun z => absurd w.1 z)
        refine rm_i (fun z3 => b42 ?_) (fun z3 => rm_i (fun _ => ff KC) (fun zg => b42 ?_))
        · rcases hm with w | w
          · exact absurd z3 w.1
          · exact w
        · rcases hm with w | w
          · exact absurd w.2 zg
          · exact w
      refine rm_i (fun w => absurd w nm1) (fun _ => ?_)
      refine rc_i (fun _ => cls) (fun na => rc_b (rq_bC (has_p a4 r (pI s 7 7 r)) (fun r5 s6 g5 => ?_)))
      obtain ⟨es, g5⟩ := g5
      rw [es]
      refine rc_i (fun z => ?_) (fun _ => cls)
      exact absurd (r1_n g5 z) (fun w => w (hb.elim (fun y => absurd y na) id))
    · -- all is well
      have hm : ¬ ((¬ v3 = 0 ∧ (((s4.1 1 1929) >>> (r &&& 31)) &&& 1) = 1) ∨ (v4 = 1 ∧ r = s4.1 1 v1.toNatClampNeg)) := fun w => hb (bd5.mpr w)
      have na : ¬ r = a3 := fun z => hb (Or.inl z)
      have nb : ((a4 >>> (r &&& 31)) &&& 1) = 0 := Decidable.byContradiction fun z => hb (Or.inr z)
      refine rm_i (fun w => absurd w nm1) (fun _ => ?_)
      refine rc_i (fun z => absurd z na) (fun _ => rc_b (rq_bC (has_p a4 r (pI s 7 7 r)) (fun r5 s6 g5 => ?_)))
      obtain ⟨es, g5⟩ := g5
      rw [es]
      refine rc_i (fun _ => rc_c (fun _ => rc_n (fun s8 e8 => ?_))) (fun z => absurd nb (r1_y g5 z))
      rw [e77] at e8
      have f8 : Fr cC LT58 s s8 := by
        rw [e8]
        exact fr_i (fr_i fr_r 187 rfl rfl) 58 rfl rfl
      have f9 : Fr cdN (2 ^ 1) s4 (pI s4 1 (1920 + P) r) := fr_x 1 rfl
      have tk8 : TkRel n s8 (pI s4 1 (1920 + P) r) := tk_f tk f8 f9 rfl (m_and rfl)
      have c8 : ∀ c k, ¬ (c = 58 ∧ k = x.toNatClampNeg) → ¬ (c = 7 ∧ k = 7) → s8.1 c k = s.1 c k := fun c k z1 z2 => by
        rw [e8, pI_1, if_neg z1, pI_1, if_neg z2]
      have cf : ∀ c, ¬ c = 58 → ¬ c = 7 → s8.1 c = s.1 c := fun c z1 z2 => funext fun k => c8 c k (fun y => z1 y.1) (fun y => z2 y.1)
      have w8 : WkT n q x s8 (pI s4 1 (1920 + P) r) := by
        refine wk_x hq h tk8 ⟨cf 52 (by decide) (by decide), by rw [e8]; rfl, cf 56 (by decide) (by decide), cf 57 (by decide) (by decide), cf 61 (by decide) (by decide), cf 8 (by decide) (by decide)⟩ ⟨cf 53 (by decide) (by decide), cf 67 (by decide) (by decide), cf 68 (by decide) (by decide), cf 69 (by decide) (by decide), cf 70 (by decide) (by decide), cf 71 (by decide) (by decide)⟩ (fun k z => ⟨c8 58 k ?_ (by omega), c8 59 k ?_ (by omega), c8 60 k ?_ (by omega)⟩) (fun k z => ⟨c8 62 k ?_ (by omega), c8 63 k ?_ (by omega), c8 64 k ?_ (by omega)⟩) (fun k z => ⟨c8 65 k ?_ (by omega), c8 66 k ?_ (by omega)⟩) ⟨rfl, q_nc rfl, q_nc rfl⟩ (fun k z => ?_)
        all_goals first
          | omega
          | (rw [pI_1, if_neg (fun y => z (by have e := y.2; have e2 : k = P := by omega
                                              rw [e2]; exact hin))])
      have k1 : s8.1 58 x.toNatClampNeg = r := by rw [e8, q_eq]
      have fin : RQ (bd (bd (f_X7_advance s8) (fun _ s10 => some ((1 : Int32), s10))) (fun r s => if r = 0 then some (0, s) else KC s)) (bd (f_X12_twoHouses_b65 k v1 v2 v3 v4 s4) K) (Og G) := by
        unfold f_X12_twoHouses_b65
        refine rm_b (old _ _ (fun w => absurd w nm1) (fun _ => ?_))
        refine rc_b (rm_b (rq_b2 (adv_s tk8) (fun _ s10 _ t w => rc_s (rm_s ?_))))
        refine rq_iC (fun z => absurd z i10) (fun _ => rm_i (fun z => absurd z i10) (fun _ => ?_))
        have kp := kp_of w
        have q1 := tk_pos tk8
        have q2 := w.2.2.2
        have q3 : s8.1 7 4 = s.1 7 4 := c8 7 4 (by omega) (by omega)
        obtain ⟨⟨⟨y1, y2, y3, y4, y5, y6, y7, y8, y9, y10, y11, y12⟩, y13, y14, y15, y16, y17, y18, y19, y20⟩, y21, y22, y23, y24⟩ := kp
        refine hk r s10 t (wk_st w w8) (by rw [q3] at q1; omega) ⟨?_, ?_, fr.1, fr.2, fun z => hm (Or.inr z)⟩ (fun c z1 z2 z3 => ?_) (fun j z => ?_) ?_
        · rw [show s10.1 58 = s8.1 58 by first | exact y6 | exact y7 | exact y10 | exact y11]
          exact k1
        · rw [y21, q_eq]
        · have e : s10.1 c = s8.1 c := by
            have a : c = 58 ∨ c = 59 ∨ c = 60 ∨ c = 61 ∨ c = 62 ∨ c = 63 ∨ c = 64 ∨ c = 65 ∨ c = 66 := by omega
            rcases a with a | a | a | a | a | a | a | a | a <;> subst a <;> assumption
          rw [e, cf c z3 (by omega)]
        · rw [y21, pI_1, if_neg (fun y => z y.2)]
        · rw [y1, cf 52 (by decide) (by decide)]
      have b42 : RQ (bd (bd (f_X7_advance s8) (fun _ s10 => some ((1 : Int32), s10))) (fun r s => if r = 0 then some (0, s) else KC s)) (bd (f_X12_twoHouses_b42 k v1 v2 v3 v4 r s4) K) (Og G) := by
        unfold f_X12_twoHouses_b42
        exact rm_i (fun z4 => rm_c (fun _ => rm_i (fun z => absurd (Or.inr ⟨z4, z⟩) hm) (fun _ => fin))) (fun _ => fin)
      exact rm_i (fun _ => b42) (fun z3 => rm_i (fun zg => absurd (Or.inl ⟨z3, zg⟩) hm) (fun _ => b42))
theorem end59_r {n q : Nat} {x : Int32} (hq : 1 ≤ q ∧ q < 4) (hqc : q = 1) {sC sM : Sg} (h : WkT n q x sC sM) {p0 : Int} (hp : p0 ≤ (sC.1 7 4).toInt) (a3 a4 v1 v2 v3 v4 : Int32) (P : Nat) (hP : (v1 + v4).toNatClampNeg = 1920 + P) (hin : InW q x.toNatClampNeg P) (hv4 : v4 = 0 ∨ v4 = 1) (k : Int32 → Int32 → Int32 → Int32 → Sg → Option (Int32 × Sg)) (bad : ∀ r : Int32, 0 ≤ r.toInt → r.toInt < (sM.1 1 1920).toInt → ((r = a3 ∨ ¬ ((a4 >>> (r &&& 31)) &&& 1) = 0) ↔ ((¬ v3 = 0 ∧ (((sM.1 1 1929) >>> (r &&& 31)) &&& 1) = 1) ∨ (v4 = 1 ∧ r = sM.1 1 v1.toNatClampNeg)))) {G : Sg → Sg → Prop} {K : Int32 → Sg → Option (Int32 × Sg)} (hK : K0 K) (KC : Sg → Option (Int32 × Sg)) (hk : ∀ (r : Int32) (s t : Sg), WkT n q x s t → p0 ≤ (s.1 7 4).toInt → (s.1 59 x.toNatClampNeg = r ∧ t.1 1 (1920 + P) = r ∧ 0 ≤ r.toInt ∧ r.toInt < (sM.1 1 1920).toInt ∧ ¬ (v4 = 1 ∧ r = sM.1 1 v1.toNatClampNeg)) → (∀ c, 58 ≤ c → c ≤ 66 → ¬ c = 59 → s.1 c = sC.1 c) → (∀ j, ¬ j = 1920 + P → t.1 1 j = sM.1 1 j) → s.1 52 = sC.1 52 → RQ (KC s) (bd (if v4 = 0 then bd (f_X12_wantWord_1001 v2 t) (fun r5 s6 => if r5 = 0 then some (0, s6) else k v1 v2 v3 (v4 + 1) s6) else k v1 v2 v3 (v4 + 1) t) K) (Og G)) : RQ (bd (f_X6_takeEnd_59 x a3 a4 sC) (fun r s => if r = 0 then some (0, s) else KC s)) (bd (bd (f_X12_houseHere sM) (fun r1 s2 => if r1 = (-1) then f_X12_twoHouses_b65 k v1 v2 v3 v4 s2 else if v3 = 0 then f_X12_twoHouses_b42 k v1 v2 v3 v4 r1 s2 else if (((s2.1 1 1929) >>> (r1 &&& 31)) &&& 1) = 1 then bd (f_X12_fails 5 s2) (fun r10 s11 => ck (r10 = 0 ∨ r10 = 1) (some (r10, s11))) else f_X12_twoHouses_b42 k v1 v2 v3 v4 r1 s2)) K) (Og G) := by
  have tk := h.1.1
  have h0 := h.1.2.1
  have b0 : 0 ≤ (sM.1 1 1920).toInt ∧ (sM.1 1 1920).toInt ≤ 8 := h.2.2.1.2.1.1
  unfold f_X6_takeEnd_59 f_X7_findName_52 f_X12_houseHere
  refine rm_b (rm_b (rq_bM (name_r tk) (fun r1 s2 g => ?_)))
  obtain ⟨es, g⟩ := g
  subst es
  refine rc_b (rc_i (fun c => ?_) (fun c => ?_))
  rotate_left
  · -- no name
    refine rm_i (fun _ => ?_) (fun d => absurd (r1_y g d) c)
    refine rm_s (rm_i (fun _ => ?_) (fun w => absurd rfl w))
    unfold f_X12_twoHouses_b65 f_X12_oldOne
    refine rm_b (rm_b (rq_bM (name_r tk) (fun r1 s3 g1 => ?_)))
    obtain ⟨es, g1⟩ := g1
    subst es
    refine rm_i (fun _ => ?_) (fun d => absurd (r1_y g1 d) c)
    refine rc_b (rm_b (rq_b2 (fails_r tk h0 2 (by decide)) (fun r s r' t g3 => ?_)))
    obtain ⟨z, z', g3⟩ := g3
    subst z; subst z'
    refine rc_c (fun _ => rm_c (fun _ => rc_s (rm_s ?_)))
    refine rc_i (fun _ => rm_i (fun _ => ?_) (fun w => absurd rfl w)) (fun w => absurd rfl w)
    refine rc_s (rm_s ?_)
    rw [if_pos rfl, hK t]
    exact rq_s (Or.inr ⟨rfl, rfl, g3⟩)
  obtain ⟨b, hab, hbn⟩ := here_r tk c
  obtain ⟨N0, b1, w1, w2, -⟩ := h.2.1
  have hN : (sC.1 52 12).toInt = ((N0 + 1 : Nat) : Int) := by omega
  have fnd := fh_p b s2 hbn 96 (s2.1 1 1920).toInt.toNat (by omega) 96 (s2.1 1 1920) rfl (by omega)
  refine rc_b (rq_bC (no_p2 (sC.2 7 6) 100 (N0 + 1) sC hN (by omega)) (fun r s gC => ?_))
  obtain ⟨es, gC⟩ := gC
  subst es
  refine rm_i (fun d => absurd c (r1_n g d)) (fun _ => rm_b (rq_bM fnd (fun r3 s4 gM => rm_s ?_)))
  obtain ⟨es, gM⟩ := gM
  subst es
  have fe := find_e hq h c hab hN gC gM
  obtain ⟨er, fr⟩ := fe
  have e77 : (pI s 7 7 r).1 7 7 = r := q_eq
  have tk7 : ∀ v p w, TkRel n (pI s 7 7 v) (pI s4 1 p w) := fun v p w => tk_f (L1 := 2 ^ 187) (L2 := 2 ^ 1) tk (fr_x 187 rfl) (fr_x 1 rfl) (m_and rfl) (m_and rfl)
  have tk70 : TkRel n (pI s 7 7 r) s4 := tk_f (L1 := 2 ^ 187) (L2 := 0) tk (fr_x 187 rfl) fr_r (m_and rfl) rfl
  rw [e77]
  -- the reference asks once more
  have old : ∀ (KX : Int32 → Sg → Option (Int32 × Sg)) (oC : Option (Int32 × Sg)), (r = -1 → RQ oC (bd (bd (f_X12_fails 3 (pI s4 1 (1920 + P) r)) (fun r8 s9 => ck (r8 = 0 ∨ r8 = 1) (some (r8, s9)))) KX) (Og G)) → (¬ r = -1 → RQ oC (bd (bd (f_X12_ahead (pI s4 1 (1920 + P) r)) (fun _ s11 => some (1, s11))) KX) (Og G)) → RQ oC (bd (f_X12_oldOne 96 (s4.1 1 1920) (v1 + v4) s4) KX) (Og G) := by
    intro KX oC hx3 hx4
    unfold f_X12_oldOne
    refine rm_b (rq_bM (name_r tk) (fun r1 s3 g1 => ?_))
    obtain ⟨es, g1⟩ := g1
    subst es
    refine rm_i (fun d => absurd c (r1_n g1 d)) (fun _ => rm_b (rq_bM fnd (fun r5 s6 gM2 => ?_)))
    obtain ⟨es, gM2⟩ := gM2
    subst es
    have e5 := (find_e hq h c hab hN gC gM2).1
    subst e5
    refine rm_c (fun _ => rm_i (fun z => ?_) (fun z => ?_))
    · rw [hP]
      exact hx3 (q_eq.symm.trans z)
    · rw [hP]
      exact hx4 (fun y => z (q_eq.trans y))
  rcases fr with fr | fr
  · -- no such house
    refine rc_i (fun _ => ?_) (fun w => absurd fr w)
    rw [← er, fr]
    refine rm_i (fun _ => ?_) (fun w => absurd rfl w)
    unfold f_X12_twoHouses_b65
    refine rm_b (old _ _ (fun _ => ?_) (fun w => absurd fr w))
    refine rc_b (rm_b (rq_b2 (fails_r (tk7 _ _ _) (by rw [q_nc rfl]; exact h0) 3 (by decide)) (fun r s r' t g3 => ?_)))
    obtain ⟨z, z', g3⟩ := g3
    subst z; subst z'
    refine rc_i (fun _ => rm_c (fun _ => rc_s (rm_s ?_))) (fun w => absurd rfl w)
    refine rc_i (fun _ => rm_i (fun _ => ?_) (fun w => absurd rfl w)) (fun w => absurd rfl w)
    refine rc_s (rm_s ?_)
    rw [if_pos rfl, hK t]
    exact rq_s (Or.inr ⟨rfl, rfl, g3⟩)
  · have nm1 : ¬ r = -1 := fun e => by
      rw [e] at fr
      exact absurd fr.1 (by decide)
    have bd5 := bad r fr.1 fr.2
    refine rc_i (fun w => absurd w nm1) (fun _ => rc_s ?_)
    refine rc_i (fun z => absurd z i10) (fun _ => ?_)
    rw [← er, e77]
    have ff : ∀ KX : Sg → Option (Int32 × Sg), RQ (bd (bd (f_X7_wrong 5 (pI s 7 7 r)) (fun r3 s4 => ck (r3 = 0 ∨ r3 = 1) (some (r3, s4)))) (fun r s => if r = 0 then some (0, s) else KX s)) (bd (bd (f_X12_fails 5 s4) (fun r10 s11 => ck (r10 = 0 ∨ r10 = 1) (some (r10, s11)))) K) (Og G) := by
      intro KX
      refine rc_b (rm_b (rq_b2 (fails_r tk70 h0 5 (by decide)) (fun r s r' t g3 => ?_)))
      obtain ⟨z, z', g3⟩ := g3
      subst z; subst z'
      refine rc_c (fun _ => rm_c (fun _ => rc_s (rm_s ?_)))
      rw [if_pos rfl, hK t]
      exact rq_s (Or.inr ⟨rfl, rfl, g3⟩)
    by_cases hb : r = a3 ∨ ¬ ((a4 >>> (r &&& 31)) &&& 1) = 0
    · -- not allowed
      have hm := bd5.mp hb
      have cls : RQ (bd (bd (f_X7_wrong 5 (pI s 7 7 r)) (fun r3 s4 => ck (r3 = 0 ∨ r3 = 1) (some (r3, s4)))) (fun r s => if r = 0 then some (0, s) else KC s)) (bd (if v3 = 0 then f_X12_twoHouses_b42 k v1 v2 v3 v4 r s4 else if (((s4.1 1 1929) >>> (r &&& 31)) &&& 1) = 1 then bd (f_X12_fails 5 s4) (fun r10 s11 => ck (r10 = 0 ∨ r10 = 1) (some (r10, s11))) else f_X12_twoHouses_b42 k v1 v2 v3 v4 r s4) K) (Og G) := by
        have b42 : v4 = 1 ∧ r = s4.1 1 v1.toNatClampNeg → RQ (bd (bd (f_X7_wrong 5 (pI s 7 7 r)) (fun r3 s4 => ck (r3 = 0 ∨ r3 = 1) (some (r3, s4)))) (fun r s => if r = 0 then some (0, s) else KC s)) (bd (f_X12_twoHouses_b42 k v1 v2 v3 v4 r s4) K) (Og G) := fun w => by
          unfold f_X12_twoHouses_b42
          exact rm_i (fun _ => rm_c (fun _ => rm_i (fun _ => ff KC) (fun z => absurd w.2 z))) (fun z => absurd w.1 z)
        refine rm_i (fun z3 => b42 ?_) (fun z3 => rm_i (fun _ => ff KC) (fun zg => b42 ?_))
        · rcases hm with w | w
          · exact absurd z3 w.1
          · exact w
        · rcases hm with w | w
          · exact absurd w.2 zg
          · exact w
      refine rm_i (fun w => absurd w nm1) (fun _ => ?_)
      refine rc_i (fun _ => cls) (fun na => rc_b (rq_bC (has_p a4 r (pI s 7 7 r)) (fun r5 s6 g5 => ?_)))
      obtain ⟨es, g5⟩ := g5
      rw [es]
      refine rc_i (fun z => ?_) (fun _ => cls)
      exact absurd (r1_n g5 z) (fun w => w (hb.elim (fun y => absurd y na) id))
    · -- all is well
      have hm : ¬ ((¬ v3 = 0 ∧ (((s4.1 1 1929) >>> (r &&& 31)) &&& 1) = 1) ∨ (v4 = 1 ∧ r = s4.1 1 v1.toNatClampNeg)) := fun w => hb (bd5.mpr w)
      have na : ¬ r = a3 := fun z => hb (Or.inl z)
      have nb : ((a4 >>> (r &&& 31)) &&& 1) = 0 := Decidable.byContradiction fun z => hb (Or.inr z)
      refine rm_i (fun w => absurd w nm1) (fun _ => ?_)
      refine rc_i (fun z => absurd z na) (fun _ => rc_b (rq_bC (has_p a4 r (pI s 7 7 r)) (fun r5 s6 g5 => ?_)))
      obtain ⟨es, g5⟩ := g5
      rw [es]
      refine rc_i (fun _ => rc_c (fun _ => rc_n (fun s8 e8 => ?_))) (fun z => absurd nb (r1_y g5 z))
      rw [e77] at e8
      have f8 : Fr cC LT59 s s8 := by
        rw [e8]
        exact fr_i (fr_i fr_r 187 rfl rfl) 59 rfl rfl
      have f9 : Fr cdN (2 ^ 1) s4 (pI s4 1 (1920 + P) r) := fr_x 1 rfl
      have tk8 : TkRel n s8 (pI s4 1 (1920 + P) r) := tk_f tk f8 f9 rfl (m_and rfl)
      have c8 : ∀ c k, ¬ (c = 59 ∧ k = x.toNatClampNeg) → ¬ (c = 7 ∧ k = 7) → s8.1 c k = s.1 c k := fun c k z1 z2 => by
        rw [e8, pI_1, if_neg z1, pI_1, if_neg z2]
      have cf : ∀ c, ¬ c = 59 → ¬ c = 7 → s8.1 c = s.1 c := fun c z1 z2 => funext fun k => c8 c k (fun y => z1 y.1) (fun y => z2 y.1)
      have w8 : WkT n q x s8 (pI s4 1 (1920 + P) r) := by
        refine wk_x hq h tk8 ⟨cf 52 (by decide) (by decide), by rw [e8]; rfl, cf 56 (by decide) (by decide), cf 57 (by decide) (by decide), cf 61 (by decide) (by decide), cf 8 (by decide) (by decide)⟩ ⟨cf 53 (by decide) (by decide), cf 67 (by decide) (by decide), cf 68 (by decide) (by decide), cf 69 (by decide) (by decide), cf 70 (by decide) (by decide), cf 71 (by decide) (by decide)⟩ (fun k z => ⟨c8 58 k ?_ (by omega), c8 59 k ?_ (by omega), c8 60 k ?_ (by omega)⟩) (fun k z => ⟨c8 62 k ?_ (by omega), c8 63 k ?_ (by omega), c8 64 k ?_ (by omega)⟩) (fun k z => ⟨c8 65 k ?_ (by omega), c8 66 k ?_ (by omega)⟩) ⟨rfl, q_nc rfl, q_nc rfl⟩ (fun k z => ?_)
        all_goals first
          | omega
          | (rw [pI_1, if_neg (fun y => z (by have e := y.2; have e2 : k = P := by omega
                                              rw [e2]; exact hin))])
      have k1 : s8.1 59 x.toNatClampNeg = r := by rw [e8, q_eq]
      have fin : RQ (bd (bd (f_X7_advance s8) (fun _ s10 => some ((1 : Int32), s10))) (fun r s => if r = 0 then some (0, s) else KC s)) (bd (f_X12_twoHouses_b65 k v1 v2 v3 v4 s4) K) (Og G) := by
        unfold f_X12_twoHouses_b65
        refine rm_b (old _ _ (fun w => absurd w nm1) (fun _ => ?_))
        refine rc_b (rm_b (rq_b2 (adv_s tk8) (fun _ s10 _ t w => rc_s (rm_s ?_))))
        refine rq_iC (fun z => absurd z i10) (fun _ => rm_i (fun z => absurd z i10) (fun _ => ?_))
        have kp := kp_of w
        have q1 := tk_pos tk8
        have q2 := w.2.2.2
        have q3 : s8.1 7 4 = s.1 7 4 := c8 7 4 (by omega) (by omega)
        obtain ⟨⟨⟨y1, y2, y3, y4, y5, y6, y7, y8, y9, y10, y11, y12⟩, y13, y14, y15, y16, y17, y18, y19, y20⟩, y21, y22, y23, y24⟩ := kp
        refine hk r s10 t (wk_st w w8) (by rw [q3] at q1; omega) ⟨?_, ?_, fr.1, fr.2, fun z => hm (Or.inr z)⟩ (fun c z1 z2 z3 => ?_) (fun j z => ?_) ?_
        · rw [show s10.1 59 = s8.1 59 by first | exact y6 | exact y7 | exact y10 | exact y11]
          exact k1
        · rw [y21, q_eq]
        · have e : s10.1 c = s8.1 c := by
            have a : c = 58 ∨ c = 59 ∨ c = 60 ∨ c = 61 ∨ c = 62 ∨ c = 63 ∨ c = 64 ∨ c = 65 ∨ c = 66 := by omega
            rcases a with a | a | a | a | a | a | a | a | a <;> subst a <;> assumption
          rw [e, cf c z3 (by omega)]
        · rw [y21, pI_1, if_neg (fun y => z y.2)]
        · rw [y1, cf 52 (by decide) (by decide)]
      have b42 : RQ (bd (bd (f_X7_advance s8) (fun _ s10 => some ((1 : Int32), s10))) (fun r s => if r = 0 then some (0, s) else KC s)) (bd (f_X12_twoHouses_b42 k v1 v2 v3 v4 r s4) K) (Og G) := by
        unfold f_X12_twoHouses_b42
        exact rm_i (fun z4 => rm_c (fun _ => rm_i (fun z => absurd (Or.inr ⟨z4, z⟩) hm) (fun _ => fin))) (fun _ => fin)
      exact rm_i (fun _ => b42) (fun z3 => rm_i (fun zg => absurd (Or.inl ⟨z3, zg⟩) hm) (fun _ => b42))
theorem end62_r {n q : Nat} {x : Int32} (hq : 1 ≤ q ∧ q < 4) (hqc : q = 2) {sC sM : Sg} (h : WkT n q x sC sM) {p0 : Int} (hp : p0 ≤ (sC.1 7 4).toInt) (a3 a4 v1 v2 v3 v4 : Int32) (P : Nat) (hP : (v1 + v4).toNatClampNeg = 1920 + P) (hin : InW q x.toNatClampNeg P) (hv4 : v4 = 0 ∨ v4 = 1) (k : Int32 → Int32 → Int32 → Int32 → Sg → Option (Int32 × Sg)) (bad : ∀ r : Int32, 0 ≤ r.toInt → r.toInt < (sM.1 1 1920).toInt → ((r = a3 ∨ ¬ ((a4 >>> (r &&& 31)) &&& 1) = 0) ↔ ((¬ v3 = 0 ∧ (((sM.1 1 1929) >>> (r &&& 31)) &&& 1) = 1) ∨ (v4 = 1 ∧ r = sM.1 1 v1.toNatClampNeg)))) {G : Sg → Sg → Prop} {K : Int32 → Sg → Option (Int32 × Sg)} (hK : K0 K) (KC : Sg → Option (Int32 × Sg)) (hk : ∀ (r : Int32) (s t : Sg), WkT n q x s t → p0 ≤ (s.1 7 4).toInt → (s.1 62 x.toNatClampNeg = r ∧ t.1 1 (1920 + P) = r ∧ 0 ≤ r.toInt ∧ r.toInt < (sM.1 1 1920).toInt ∧ ¬ (v4 = 1 ∧ r = sM.1 1 v1.toNatClampNeg)) → (∀ c, 58 ≤ c → c ≤ 66 → ¬ c = 62 → s.1 c = sC.1 c) → (∀ j, ¬ j = 1920 + P → t.1 1 j = sM.1 1 j) → s.1 52 = sC.1 52 → RQ (KC s) (bd (if v4 = 0 then bd (f_X12_wantWord_1001 v2 t) (fun r5 s6 => if r5 = 0 then some (0, s6) else k v1 v2 v3 (v4 + 1) s6) else k v1 v2 v3 (v4 + 1) t) K) (Og G)) : RQ (bd (f_X6_takeEnd_62 x a3 a4 sC) (fun r s => if r = 0 then some (0, s) else KC s)) (bd (bd (f_X12_houseHere sM) (fun r1 s2 => if r1 = (-1) then f_X12_twoHouses_b65 k v1 v2 v3 v4 s2 else if v3 = 0 then f_X12_twoHouses_b42 k v1 v2 v3 v4 r1 s2 else if (((s2.1 1 1929) >>> (r1 &&& 31)) &&& 1) = 1 then bd (f_X12_fails 5 s2) (fun r10 s11 => ck (r10 = 0 ∨ r10 = 1) (some (r10, s11))) else f_X12_twoHouses_b42 k v1 v2 v3 v4 r1 s2)) K) (Og G) := by
  have tk := h.1.1
  have h0 := h.1.2.1
  have b0 : 0 ≤ (sM.1 1 1920).toInt ∧ (sM.1 1 1920).toInt ≤ 8 := h.2.2.1.2.1.1
  unfold f_X6_takeEnd_62 f_X7_findName_52 f_X12_houseHere
  refine rm_b (rm_b (rq_bM (name_r tk) (fun r1 s2 g => ?_)))
  obtain ⟨es, g⟩ := g
  subst es
  refine rc_b (rc_i (fun c => ?_) (fun c => ?_))
  rotate_left
  · -- no name
    refine rm_i (fun _ => ?_) (fun d => absurd (r1_y g d) c)
    refine rm_s (rm_i (fun _ => ?_) (fun w => absurd rfl w))
    unfold f_X12_twoHouses_b65 f_X12_oldOne
    refine rm_b (rm_b (rq_bM (name_r tk) (fun r1 s3 g1 => ?_)))
    obtain ⟨es, g1⟩ := g1
    subst es
    refine rm_i (fun _ => ?_) (fun d => absurd (r1_y g1 d) c)
    refine rc_b (rm_b (rq_b2 (fails_r tk h0 2 (by decide)) (fun r s r' t g3 => ?_)))
    obtain ⟨z, z', g3⟩ := g3
    subst z; subst z'
    refine rc_c (fun _ => rm_c (fun _ => rc_s (rm_s ?_)))
    refine rc_i (fun _ => rm_i (fun _ => ?_) (fun w => absurd rfl w)) (fun w => absurd rfl w)
    refine rc_s (rm_s ?_)
    rw [if_pos rfl, hK t]
    exact rq_s (Or.inr ⟨rfl, rfl, g3⟩)
  obtain ⟨b, hab, hbn⟩ := here_r tk c
  obtain ⟨N0, b1, w1, w2, -⟩ := h.2.1
  have hN : (sC.1 52 12).toInt = ((N0 + 1 : Nat) : Int) := by omega
  have fnd := fh_p b s2 hbn 96 (s2.1 1 1920).toInt.toNat (by omega) 96 (s2.1 1 1920) rfl (by omega)
  refine rc_b (rq_bC (no_p2 (sC.2 7 6) 100 (N0 + 1) sC hN (by omega)) (fun r s gC => ?_))
  obtain ⟨es, gC⟩ := gC
  subst es
  refine rm_i (fun d => absurd c (r1_n g d)) (fun _ => rm_b (rq_bM fnd (fun r3 s4 gM => rm_s ?_)))
  obtain ⟨es, gM⟩ := gM
  subst es
  have fe := find_e hq h c hab hN gC gM
  obtain ⟨er, fr⟩ := fe
  have e77 : (pI s 7 7 r).1 7 7 = r := q_eq
  have tk7 : ∀ v p w, TkRel n (pI s 7 7 v) (pI s4 1 p w) := fun v p w => tk_f (L1 := 2 ^ 187) (L2 := 2 ^ 1) tk (fr_x 187 rfl) (fr_x 1 rfl) (m_and rfl) (m_and rfl)
  have tk70 : TkRel n (pI s 7 7 r) s4 := tk_f (L1 := 2 ^ 187) (L2 := 0) tk (fr_x 187 rfl) fr_r (m_and rfl) rfl
  rw [e77]
  -- the reference asks once more
  have old : ∀ (KX : Int32 → Sg → Option (Int32 × Sg)) (oC : Option (Int32 × Sg)), (r = -1 → RQ oC (bd (bd (f_X12_fails 3 (pI s4 1 (1920 + P) r)) (fun r8 s9 => ck (r8 = 0 ∨ r8 = 1) (some (r8, s9)))) KX) (Og G)) → (¬ r = -1 → RQ oC (bd (bd (f_X12_ahead (pI s4 1 (1920 + P) r)) (fun _ s11 => some (1, s11))) KX) (Og G)) → RQ oC (bd (f_X12_oldOne 96 (s4.1 1 1920) (v1 + v4) s4) KX) (Og G) := by
    intro KX oC hx3 hx4
    unfold f_X12_oldOne
    refine rm_b (rq_bM (name_r tk) (fun r1 s3 g1 => ?_))
    obtain ⟨es, g1⟩ := g1
    subst es
    refine rm_i (fun d => absurd c (r1_n g1 d)) (fun _ => rm_b (rq_bM fnd (fun r5 s6 gM2 => ?_)))
    obtain ⟨es, gM2⟩ := gM2
    subst es
    have e5 := (find_e hq h c hab hN gC gM2).1
    subst e5
    refine rm_c (fun _ => rm_i (fun z => ?_) (fun z => ?_))
    · rw [hP]
      exact hx3 (q_eq.symm.trans z)
    · rw [hP]
      exact hx4 (fun y => z (q_eq.trans y))
  rcases fr with fr | fr
  · -- no such house
    refine rc_i (fun _ => ?_) (fun w => absurd fr w)
    rw [← er, fr]
    refine rm_i (fun _ => ?_) (fun w => absurd rfl w)
    unfold f_X12_twoHouses_b65
    refine rm_b (old _ _ (fun _ => ?_) (fun w => absurd fr w))
    refine rc_b (rm_b (rq_b2 (fails_r (tk7 _ _ _) (by rw [q_nc rfl]; exact h0) 3 (by decide)) (fun r s r' t g3 => ?_)))
    obtain ⟨z, z', g3⟩ := g3
    subst z; subst z'
    refine rc_i (fun _ => rm_c (fun _ => rc_s (rm_s ?_))) (fun w => absurd rfl w)
    refine rc_i (fun _ => rm_i (fun _ => ?_) (fun w => absurd rfl w)) (fun w => absurd rfl w)
    refine rc_s (rm_s ?_)
    rw [if_pos rfl, hK t]
    exact rq_s (Or.inr ⟨rfl, rfl, g3⟩)
  · have nm1 : ¬ r = -1 := fun e => by
      rw [e] at fr
      exact absurd fr.1 (by decide)
    have bd5 := bad r fr.1 fr.2
    refine rc_i (fun w => absurd w nm1) (fun _ => rc_s ?_)
    refine rc_i (fun z => absurd z i10) (fun _ => ?_)
    rw [← er, e77]
    have ff : ∀ KX : Sg → Option (Int32 × Sg), RQ (bd (bd (f_X7_wrong 5 (pI s 7 7 r)) (fun r3 s4 => ck (r3 = 0 ∨ r3 = 1) (some (r3, s4)))) (fun r s => if r = 0 then some (0, s) else KX s)) (bd (bd (f_X12_fails 5 s4) (fun r10 s11 => ck (r10 = 0 ∨ r10 = 1) (some (r10, s11)))) K) (Og G) := by
      intro KX
      refine rc_b (rm_b (rq_b2 (fails_r tk70 h0 5 (by decide)) (fun r s r' t g3 => ?_)))
      obtain ⟨z, z', g3⟩ := g3
      subst z; subst z'
      refine rc_c (fun _ => rm_c (fun _ => rc_s (rm_s ?_)))
      rw [if_pos rfl, hK t]
      exact rq_s (Or.inr ⟨rfl, rfl, g3⟩)
    by_cases hb : r = a3 ∨ ¬ ((a4 >>> (r &&& 31)) &&& 1) = 0
    · -- not allowed
      have hm := bd5.mp hb
      have cls : RQ (bd (bd (f_X7_wrong 5 (pI s 7 7 r)) (fun r3 s4 => ck (r3 = 0 ∨ r3 = 1) (some (r3, s4)))) (fun r s => if r = 0 then some (0, s) else KC s)) (bd (if v3 = 0 then f_X12_twoHouses_b42 k v1 v2 v3 v4 r s4 else if (((s4.1 1 1929) >>> (r &&& 31)) &&& 1) = 1 then bd (f_X12_fails 5 s4) (fun r10 s11 => ck (r10 = 0 ∨ r10 = 1) (some (r10, s11))) else f_X12_twoHouses_b42 k v1 v2 v3 v4 r s4) K) (Og G) := by
        have b42 : v4 = 1 ∧ r = s4.1 1 v1.toNatClampNeg → RQ (bd (bd (f_X7_wrong 5 (pI s 7 7 r)) (fun r3 s4 => ck (r3 = 0 ∨ r3 = 1) (some (r3, s4)))) (fun r s => if r = 0 then some (0, s) else KC s)) (bd (f_X12_twoHouses_b42 k v1 v2 v3 v4 r s4) K) (Og G) := fun w => by
          unfold f_X12_twoHouses_b42
          exact rm_i (fun _ => rm_c (fun _ => rm_i (fun _ => ff KC) (fun z => absurd w.2 z))) (fun z => absurd w.1 z)
        refine rm_i (fun z3 => b42 ?_) (fun z3 => rm_i (fun _ => ff KC) (fun zg => b42 ?_))
        · rcases hm with w | w
          · exact absurd z3 w.1
          · exact w
        · rcases hm with w | w
          · exact absurd w.2 zg
          · exact w
      refine rm_i (fun w => absurd w nm1) (fun _ => ?_)
      refine rc_i (fun _ => cls) (fun na => rc_b (rq_bC (has_p a4 r (pI s 7 7 r)) (fun r5 s6 g5 => ?_)))
      obtain ⟨es, g5⟩ := g5
      rw [es]
      refine rc_i (fun z => ?_) (fun _ => cls)
      exact absurd (r1_n g5 z) (fun w => w (hb.elim (fun y => absurd y na) id))
    · -- all is well
      have hm : ¬ ((¬ v3 = 0 ∧ (((s4.1 1 1929) >>> (r &&& 31)) &&& 1) = 1) ∨ (v4 = 1 ∧ r = s4.1 1 v1.toNatClampNeg)) := fun w => hb (bd5.mpr w)
      have na : ¬ r = a3 := fun z => hb (Or.inl z)
      have nb : ((a4 >>> (r &&& 31)) &&& 1) = 0 := Decidable.byContradiction fun z => hb (Or.inr z)
      refine rm_i (fun w => absurd w nm1) (fun _ => ?_)
      refine rc_i (fun z => absurd z na) (fun _ => rc_b (rq_bC (has_p a4 r (pI s 7 7 r)) (fun r5 s6 g5 => ?_)))
      obtain ⟨es, g5⟩ := g5
      rw [es]
      refine rc_i (fun _ => rc_c (fun _ => rc_n (fun s8 e8 => ?_))) (fun z => absurd nb (r1_y g5 z))
      rw [e77] at e8
      have f8 : Fr cC LT62 s s8 := by
        rw [e8]
        exact fr_i (fr_i fr_r 187 rfl rfl) 62 rfl rfl
      have f9 : Fr cdN (2 ^ 1) s4 (pI s4 1 (1920 + P) r) := fr_x 1 rfl
      have tk8 : TkRel n s8 (pI s4 1 (1920 + P) r) := tk_f tk f8 f9 rfl (m_and rfl)
      have c8 : ∀ c k, ¬ (c = 62 ∧ k = x.toNatClampNeg) → ¬ (c = 7 ∧ k = 7) → s8.1 c k = s.1 c k := fun c k z1 z2 => by
        rw [e8, pI_1, if_neg z1, pI_1, if_neg z2]
      have cf : ∀ c, ¬ c = 62 → ¬ c = 7 → s8.1 c = s.1 c := fun c z1 z2 => funext fun k => c8 c k (fun y => z1 y.1) (fun y => z2 y.1)
      have w8 : WkT n q x s8 (pI s4 1 (1920 + P) r) := by
        refine wk_x hq h tk8 ⟨cf 52 (by decide) (by decide), by rw [e8]; rfl, cf 56 (by decide) (by decide), cf 57 (by decide) (by decide), cf 61 (by decide) (by decide), cf 8 (by decide) (by decide)⟩ ⟨cf 53 (by decide) (by decide), cf 67 (by decide) (by decide), cf 68 (by decide) (by decide), cf 69 (by decide) (by decide), cf 70 (by decide) (by decide), cf 71 (by decide) (by decide)⟩ (fun k z => ⟨c8 58 k ?_ (by omega), c8 59 k ?_ (by omega), c8 60 k ?_ (by omega)⟩) (fun k z => ⟨c8 62 k ?_ (by omega), c8 63 k ?_ (by omega), c8 64 k ?_ (by omega)⟩) (fun k z => ⟨c8 65 k ?_ (by omega), c8 66 k ?_ (by omega)⟩) ⟨rfl, q_nc rfl, q_nc rfl⟩ (fun k z => ?_)
        all_goals first
          | omega
          | (rw [pI_1, if_neg (fun y => z (by have e := y.2; have e2 : k = P := by omega
                                              rw [e2]; exact hin))])
      have k1 : s8.1 62 x.toNatClampNeg = r := by rw [e8, q_eq]
      have fin : RQ (bd (bd (f_X7_advance s8) (fun _ s10 => some ((1 : Int32), s10))) (fun r s => if r = 0 then some (0, s) else KC s)) (bd (f_X12_twoHouses_b65 k v1 v2 v3 v4 s4) K) (Og G) := by
        unfold f_X12_twoHouses_b65
        refine rm_b (old _ _ (fun w => absurd w nm1) (fun _ => ?_))
        refine rc_b (rm_b (rq_b2 (adv_s tk8) (fun _ s10 _ t w => rc_s (rm_s ?_))))
        refine rq_iC (fun z => absurd z i10) (fun _ => rm_i (fun z => absurd z i10) (fun _ => ?_))
        have kp := kp_of w
        have q1 := tk_pos tk8
        have q2 := w.2.2.2
        have q3 : s8.1 7 4 = s.1 7 4 := c8 7 4 (by omega) (by omega)
        obtain ⟨⟨⟨y1, y2, y3, y4, y5, y6, y7, y8, y9, y10, y11, y12⟩, y13, y14, y15, y16, y17, y18, y19, y20⟩, y21, y22, y23, y24⟩ := kp
        refine hk r s10 t (wk_st w w8) (by rw [q3] at q1; omega) ⟨?_, ?_, fr.1, fr.2, fun z => hm (Or.inr z)⟩ (fun c z1 z2 z3 => ?_) (fun j z => ?_) ?_
        · rw [show s10.1 62 = s8.1 62 by first | exact y6 | exact y7 | exact y10 | exact y11]
          exact k1
        · rw [y21, q_eq]
        · have e : s10.1 c = s8.1 c := by
            have a : c = 58 ∨ c = 59 ∨ c = 60 ∨ c = 61 ∨ c = 62 ∨ c = 63 ∨ c = 64 ∨ c = 65 ∨ c = 66 := by omega
            rcases a with a | a | a | a | a | a | a | a | a <;> subst a <;> assumption
          rw [e, cf c z3 (by omega)]
        · rw [y21, pI_1, if_neg (fun y => z y.2)]
        · rw [y1, cf 52 (by decide) (by decide)]
      have b42 : RQ (bd (bd (f_X7_advance s8) (fun _ s10 => some ((1 : Int32), s10))) (fun r s => if r = 0 then some (0, s) else KC s)) (bd (f_X12_twoHouses_b42 k v1 v2 v3 v4 r s4) K) (Og G) := by
        unfold f_X12_twoHouses_b42
        exact rm_i (fun z4 => rm_c (fun _ => rm_i (fun z => absurd (Or.inr ⟨z4, z⟩) hm) (fun _ => fin))) (fun _ => fin)
      exact rm_i (fun _ => b42) (fun z3 => rm_i (fun zg => absurd (Or.inl ⟨z3, zg⟩) hm) (fun _ => b42))
theorem end63_r {n q : Nat} {x : Int32} (hq : 1 ≤ q ∧ q < 4) (hqc : q = 2) {sC sM : Sg} (h : WkT n q x sC sM) {p0 : Int} (hp : p0 ≤ (sC.1 7 4).toInt) (a3 a4 v1 v2 v3 v4 : Int32) (P : Nat) (hP : (v1 + v4).toNatClampNeg = 1920 + P) (hin : InW q x.toNatClampNeg P) (hv4 : v4 = 0 ∨ v4 = 1) (k : Int32 → Int32 → Int32 → Int32 → Sg → Option (Int32 × Sg)) (bad : ∀ r : Int32, 0 ≤ r.toInt → r.toInt < (sM.1 1 1920).toInt → ((r = a3 ∨ ¬ ((a4 >>> (r &&& 31)) &&& 1) = 0) ↔ ((¬ v3 = 0 ∧ (((sM.1 1 1929) >>> (r &&& 31)) &&& 1) = 1) ∨ (v4 = 1 ∧ r = sM.1 1 v1.toNatClampNeg)))) {G : Sg → Sg → Prop} {K : Int32 → Sg → Option (Int32 × Sg)} (hK : K0 K) (KC : Sg → Option (Int32 × Sg)) (hk : ∀ (r : Int32) (s t : Sg), WkT n q x s t → p0 ≤ (s.1 7 4).toInt → (s.1 63 x.toNatClampNeg = r ∧ t.1 1 (1920 + P) = r ∧ 0 ≤ r.toInt ∧ r.toInt < (sM.1 1 1920).toInt ∧ ¬ (v4 = 1 ∧ r = sM.1 1 v1.toNatClampNeg)) → (∀ c, 58 ≤ c → c ≤ 66 → ¬ c = 63 → s.1 c = sC.1 c) → (∀ j, ¬ j = 1920 + P → t.1 1 j = sM.1 1 j) → s.1 52 = sC.1 52 → RQ (KC s) (bd (if v4 = 0 then bd (f_X12_wantWord_1001 v2 t) (fun r5 s6 => if r5 = 0 then some (0, s6) else k v1 v2 v3 (v4 + 1) s6) else k v1 v2 v3 (v4 + 1) t) K) (Og G)) : RQ (bd (f_X6_takeEnd_63 x a3 a4 sC) (fun r s => if r = 0 then some (0, s) else KC s)) (bd (bd (f_X12_houseHere sM) (fun r1 s2 => if r1 = (-1) then f_X12_twoHouses_b65 k v1 v2 v3 v4 s2 else if v3 = 0 then f_X12_twoHouses_b42 k v1 v2 v3 v4 r1 s2 else if (((s2.1 1 1929) >>> (r1 &&& 31)) &&& 1) = 1 then bd (f_X12_fails 5 s2) (fun r10 s11 => ck (r10 = 0 ∨ r10 = 1) (some (r10, s11))) else f_X12_twoHouses_b42 k v1 v2 v3 v4 r1 s2)) K) (Og G) := by
  have tk := h.1.1
  have h0 := h.1.2.1
  have b0 : 0 ≤ (sM.1 1 1920).toInt ∧ (sM.1 1 1920).toInt ≤ 8 := h.2.2.1.2.1.1
  unfold f_X6_takeEnd_63 f_X7_findName_52 f_X12_houseHere
  refine rm_b (rm_b (rq_bM (name_r tk) (fun r1 s2 g => ?_)))
  obtain ⟨es, g⟩ := g
  subst es
  refine rc_b (rc_i (fun c => ?_) (fun c => ?_))
  rotate_left
  · -- no name
    refine rm_i (fun _ => ?_) (fun d => absurd (r1_y g d) c)
    refine rm_s (rm_i (fun _ => ?_) (fun w => absurd rfl w))
    unfold f_X12_twoHouses_b65 f_X12_oldOne
    refine rm_b (rm_b (rq_bM (name_r tk) (fun r1 s3 g1 => ?_)))
    obtain ⟨es, g1⟩ := g1
    subst es
    refine rm_i (fun _ => ?_) (fun d => absurd (r1_y g1 d) c)
    refine rc_b (rm_b (rq_b2 (fails_r tk h0 2 (by decide)) (fun r s r' t g3 => ?_)))
    obtain ⟨z, z', g3⟩ := g3
    subst z; subst z'
    refine rc_c (fun _ => rm_c (fun _ => rc_s (rm_s ?_)))
    refine rc_i (fun _ => rm_i (fun _ => ?_) (fun w => absurd rfl w)) (fun w => absurd rfl w)
    refine rc_s (rm_s ?_)
    rw [if_pos rfl, hK t]
    exact rq_s (Or.inr ⟨rfl, rfl, g3⟩)
  obtain ⟨b, hab, hbn⟩ := here_r tk c
  obtain ⟨N0, b1, w1, w2, -⟩ := h.2.1
  have hN : (sC.1 52 12).toInt = ((N0 + 1 : Nat) : Int) := by omega
  have fnd := fh_p b s2 hbn 96 (s2.1 1 1920).toInt.toNat (by omega) 96 (s2.1 1 1920) rfl (by omega)
  refine rc_b (rq_bC (no_p2 (sC.2 7 6) 100 (N0 + 1) sC hN (by omega)) (fun r s gC => ?_))
  obtain ⟨es, gC⟩ := gC
  subst es
  refine rm_i (fun d => absurd c (r1_n g d)) (fun _ => rm_b (rq_bM fnd (fun r3 s4 gM => rm_s ?_)))
  obtain ⟨es, gM⟩ := gM
  subst es
  have fe := find_e hq h c hab hN gC gM
  obtain ⟨er, fr⟩ := fe
  have e77 : (pI s 7 7 r).1 7 7 = r := q_eq
  have tk7 : ∀ v p w, TkRel n (pI s 7 7 v) (pI s4 1 p w) := fun v p w => tk_f (L1 := 2 ^ 187) (L2 := 2 ^ 1) tk (fr_x 187 rfl) (fr_x 1 rfl) (m_and rfl) (m_and rfl)
  have tk70 : TkRel n (pI s 7 7 r) s4 := tk_f (L1 := 2 ^ 187) (L2 := 0) tk (fr_x 187 rfl) fr_r (m_and rfl) rfl
  rw [e77]
  -- the reference asks once more
  have old : ∀ (KX : Int32 → Sg → Option (Int32 × Sg)) (oC : Option (Int32 × Sg)), (r = -1 → RQ oC (bd (bd (f_X12_fails 3 (pI s4 1 (1920 + P) r)) (fun r8 s9 => ck (r8 = 0 ∨ r8 = 1) (some (r8, s9)))) KX) (Og G)) → (¬ r = -1 → RQ oC (bd (bd (f_X12_ahead (pI s4 1 (1920 + P) r)) (fun _ s11 => some (1, s11))) KX) (Og G)) → RQ oC (bd (f_X12_oldOne 96 (s4.1 1 1920) (v1 + v4) s4) KX) (Og G) := by
    intro KX oC hx3 hx4
    unfold f_X12_oldOne
    refine rm_b (rq_bM (name_r tk) (fun r1 s3 g1 => ?_))
    obtain ⟨es, g1⟩ := g1
    subst es
    refine rm_i (fun d => absurd c (r1_n g1 d)) (fun _ => rm_b (rq_bM fnd (fun r5 s6 gM2 => ?_)))
    obtain ⟨es, gM2⟩ := gM2
    subst es
    have e5 := (find_e hq h c hab hN gC gM2).1
    subst e5
    refine rm_c (fun _ => rm_i (fun z => ?_) (fun z => ?_))
    · rw [hP]
      exact hx3 (q_eq.symm.trans z)
    · rw [hP]
      exact hx4 (fun y => z (q_eq.trans y))
  rcases fr with fr | fr
  · -- no such house
    refine rc_i (fun _ => ?_) (fun w => absurd fr w)
    rw [← er, fr]
    refine rm_i (fun _ => ?_) (fun w => absurd rfl w)
    unfold f_X12_twoHouses_b65
    refine rm_b (old _ _ (fun _ => ?_) (fun w => absurd fr w))
    refine rc_b (rm_b (rq_b2 (fails_r (tk7 _ _ _) (by rw [q_nc rfl]; exact h0) 3 (by decide)) (fun r s r' t g3 => ?_)))
    obtain ⟨z, z', g3⟩ := g3
    subst z; subst z'
    refine rc_i (fun _ => rm_c (fun _ => rc_s (rm_s ?_))) (fun w => absurd rfl w)
    refine rc_i (fun _ => rm_i (fun _ => ?_) (fun w => absurd rfl w)) (fun w => absurd rfl w)
    refine rc_s (rm_s ?_)
    rw [if_pos rfl, hK t]
    exact rq_s (Or.inr ⟨rfl, rfl, g3⟩)
  · have nm1 : ¬ r = -1 := fun e => by
      rw [e] at fr
      exact absurd fr.1 (by decide)
    have bd5 := bad r fr.1 fr.2
    refine rc_i (fun w => absurd w nm1) (fun _ => rc_s ?_)
    refine rc_i (fun z => absurd z i10) (fun _ => ?_)
    rw [← er, e77]
    have ff : ∀ KX : Sg → Option (Int32 × Sg), RQ (bd (bd (f_X7_wrong 5 (pI s 7 7 r)) (fun r3 s4 => ck (r3 = 0 ∨ r3 = 1) (some (r3, s4)))) (fun r s => if r = 0 then some (0, s) else KX s)) (bd (bd (f_X12_fails 5 s4) (fun r10 s11 => ck (r10 = 0 ∨ r10 = 1) (some (r10, s11)))) K) (Og G) := by
      intro KX
      refine rc_b (rm_b (rq_b2 (fails_r tk70 h0 5 (by decide)) (fun r s r' t g3 => ?_)))
      obtain ⟨z, z', g3⟩ := g3
      subst z; subst z'
      refine rc_c (fun _ => rm_c (fun _ => rc_s (rm_s ?_)))
      rw [if_pos rfl, hK t]
      exact rq_s (Or.inr ⟨rfl, rfl, g3⟩)
    by_cases hb : r = a3 ∨ ¬ ((a4 >>> (r &&& 31)) &&& 1) = 0
    · -- not allowed
      have hm := bd5.mp hb
      have cls : RQ (bd (bd (f_X7_wrong 5 (pI s 7 7 r)) (fun r3 s4 => ck (r3 = 0 ∨ r3 = 1) (some (r3, s4)))) (fun r s => if r = 0 then some (0, s) else KC s)) (bd (if v3 = 0 then f_X12_twoHouses_b42 k v1 v2 v3 v4 r s4 else if (((s4.1 1 1929) >>> (r &&& 31)) &&& 1) = 1 then bd (f_X12_fails 5 s4) (fun r10 s11 => ck (r10 = 0 ∨ r10 = 1) (some (r10, s11))) else f_X12_twoHouses_b42 k v1 v2 v3 v4 r s4) K) (Og G) := by
        have b42 : v4 = 1 ∧ r = s4.1 1 v1.toNatClampNeg → RQ (bd (bd (f_X7_wrong 5 (pI s 7 7 r)) (fun r3 s4 => ck (r3 = 0 ∨ r3 = 1) (some (r3, s4)))) (fun r s => if r = 0 then some (0, s) else KC s)) (bd (f_X12_twoHouses_b42 k v1 v2 v3 v4 r s4) K) (Og G) := fun w => by
          unfold f_X12_twoHouses_b42
          exact rm_i (fun _ => rm_c (fun _ => rm_i (fun _ => ff KC) (fun z => absurd w.2 z))) (fun z => absurd w.1 z)
        refine rm_i (fun z3 => b42 ?_) (fun z3 => rm_i (fun _ => ff KC) (fun zg => b42 ?_))
        · rcases hm with w | w
          · exact absurd z3 w.1
          · exact w
        · rcases hm with w | w
          · exact absurd w.2 zg
          · exact w
      refine rm_i (fun w => absurd w nm1) (fun _ => ?_)
      refine rc_i (fun _ => cls) (fun na => rc_b (rq_bC (has_p a4 r (pI s 7 7 r)) (fun r5 s6 g5 => ?_)))
      obtain ⟨es, g5⟩ := g5
      rw [es]
      refine rc_i (fun z => ?_) (fun _ => cls)
      exact absurd (r1_n g5 z) (fun w => w (hb.elim (fun y => absurd y na) id))
    · -- all is well
      have hm : ¬ ((¬ v3 = 0 ∧ (((s4.1 1 1929) >>> (r &&& 31)) &&& 1) = 1) ∨ (v4 = 1 ∧ r = s4.1 1 v1.toNatClampNeg)) := fun w => hb (bd5.mpr w)
      have na : ¬ r = a3 := fun z => hb (Or.inl z)
      have nb : ((a4 >>> (r &&& 31)) &&& 1) = 0 := Decidable.byContradiction fun z => hb (Or.inr z)
      refine rm_i (fun w => absurd w nm1) (fun _ => ?_)
      refine rc_i (fun z => absurd z na) (fun _ => rc_b (rq_bC (has_p a4 r (pI s 7 7 r)) (fun r5 s6 g5 => ?_)))
      obtain ⟨es, g5⟩ := g5
      rw [es]
      refine rc_i (fun _ => rc_c (fun _ => rc_n (fun s8 e8 => ?_))) (fun z => absurd nb (r1_y g5 z))
      rw [e77] at e8
      have f8 : Fr cC LT63 s s8 := by
        rw [e8]
        exact fr_i (fr_i fr_r 187 rfl rfl) 63 rfl rfl
      have f9 : Fr cdN (2 ^ 1) s4 (pI s4 1 (1920 + P) r) := fr_x 1 rfl
      have tk8 : TkRel n s8 (pI s4 1 (1920 + P) r) := tk_f tk f8 f9 rfl (m_and rfl)
      have c8 : ∀ c k, ¬ (c = 63 ∧ k = x.toNatClampNeg) → ¬ (c = 7 ∧ k = 7) → s8.1 c k = s.1 c k := fun c k z1 z2 => by
        rw [e8, pI_1, if_neg z1, pI_1, if_neg z2]
      have cf : ∀ c, ¬ c = 63 → ¬ c = 7 → s8.1 c = s.1 c := fun c z1 z2 => funext fun k => c8 c k (fun y => z1 y.1) (fun y => z2 y.1)
      have w8 : WkT n q x s8 (pI s4 1 (1920 + P) r) := by
        refine wk_x hq h tk8 ⟨cf 52 (by decide) (by decide), by rw [e8]; rfl, cf 56 (by decide) (by decide), cf 57 (by decide) (by decide), cf 61 (by decide) (by decide), cf 8 (by decide) (by decide)⟩ ⟨cf 53 (by decide) (by decide), cf 67 (by decide) (by decide), cf 68 (by decide) (by decide), cf 69 (by decide) (by decide), cf 70 (by decide) (by decide), cf 71 (by decide) (by decide)⟩ (fun k z => ⟨c8 58 k ?_ (by omega), c8 59 k ?_ (by omega), c8 60 k ?_ (by omega)⟩) (fun k z => ⟨c8 62 k ?_ (by omega), c8 63 k ?_ (by omega), c8 64 k ?_ (by omega)⟩) (fun k z => ⟨c8 65 k ?_ (by omega), c8 66 k ?_ (by omega)⟩) ⟨rfl, q_nc rfl, q_nc rfl⟩ (fun k z => ?_)
        all_goals first
          | omega
          | (rw [pI_1, if_neg (fun y => z (by have e := y.2; have e2 : k = P := by omega
                                              rw [e2]; exact hin))])
      have k1 : s8.1 63 x.toNatClampNeg = r := by rw [e8, q_eq]
      have fin : RQ (bd (bd (f_X7_advance s8) (fun _ s10 => some ((1 : Int32), s10))) (fun r s => if r = 0 then some (0, s) else KC s)) (bd (f_X12_twoHouses_b65 k v1 v2 v3 v4 s4) K) (Og G) := by
        unfold f_X12_twoHouses_b65
        refine rm_b (old _ _ (fun w => absurd w nm1) (fun _ => ?_))
        refine rc_b (rm_b (rq_b2 (adv_s tk8) (fun _ s10 _ t w => rc_s (rm_s ?_))))
        refine rq_iC (fun z => absurd z i10) (fun _ => rm_i (fun z => absurd z i10) (fun _ => ?_))
        have kp := kp_of w
        have q1 := tk_pos tk8
        have q2 := w.2.2.2
        have q3 : s8.1 7 4 = s.1 7 4 := c8 7 4 (by omega) (by omega)
        obtain ⟨⟨⟨y1, y2, y3, y4, y5, y6, y7, y8, y9, y10, y11, y12⟩, y13, y14, y15, y16, y17, y18, y19, y20⟩, y21, y22, y23, y24⟩ := kp
        refine hk r s10 t (wk_st w w8) (by rw [q3] at q1; omega) ⟨?_, ?_, fr.1, fr.2, fun z => hm (Or.inr z)⟩ (fun c z1 z2 z3 => ?_) (fun j z => ?_) ?_
        · rw [show s10.1 63 = s8.1 63 by first | exact y6 | exact y7 | exact y10 | exact y11]
          exact k1
        · rw [y21, q_eq]
        · have e : s10.1 c = s8.1 c := by
            have a : c = 58 ∨ c = 59 ∨ c = 60 ∨ c = 61 ∨ c = 62 ∨ c = 63 ∨ c = 64 ∨ c = 65 ∨ c = 66 := by omega
            rcases a with a | a | a | a | a | a | a | a | a <;> subst a <;> assumption
          rw [e, cf c z3 (by omega)]
        · rw [y21, pI_1, if_neg (fun y => z y.2)]
        · rw [y1, cf 52 (by decide) (by decide)]
      have b42 : RQ (bd (bd (f_X7_advance s8) (fun _ s10 => some ((1 : Int32), s10))) (fun r s => if r = 0 then some (0, s) else KC s)) (bd (f_X12_twoHouses_b42 k v1 v2 v3 v4 r s4) K) (Og G) := by
        unfold f_X12_twoHouses_b42
        exact rm_i (fun z4 => rm_c (fun _ => rm_i (fun z => absurd (Or.inr ⟨z4, z⟩) hm) (fun _ => fin))) (fun _ => fin)
      exact rm_i (fun _ => b42) (fun z3 => rm_i (fun zg => absurd (Or.inl ⟨z3, zg⟩) hm) (fun _ => b42))
/-! texts: both ends of a quarrel -/
theorem k0_c {K : Int32 → Sg → Option (Int32 × Sg)} (hK : K0 K) (KM : Sg → Option (Int32 × Sg)) : K0 (fun r t => bd (if r = 0 then some (0, t) else KM t) K) := fun t => by
  show bd (if (0 : Int32) = 0 then some (0, t) else KM t) K = _
  rw [if_pos rfl]
  exact hK t
theorem rq_0 {α β : Type} {oC : Option (α × Sg)} {R : α → Sg → β → Sg → Prop} : RQ oC (none : Option (β × Sg)) R := fun _ _ _ _ _ e => by cases e
/-- a quarrel's ends are there -/
def QrE (x : Int32) (s t : Sg) : Prop := (s.1 58 x.toNatClampNeg = t.1 1 (1960 + 5 * x.toNatClampNeg) ∧ s.1 59 x.toNatClampNeg = t.1 1 (1961 + 5 * x.toNatClampNeg)) ∧ (0 ≤ (s.1 58 x.toNatClampNeg).toInt ∧ (s.1 58 x.toNatClampNeg).toInt < (t.1 1 1920).toInt) ∧ (0 ≤ (s.1 59 x.toNatClampNeg).toInt ∧ (s.1 59 x.toNatClampNeg).toInt < (t.1 1 1920).toInt) ∧ ¬ s.1 58 x.toNatClampNeg = s.1 59 x.toNatClampNeg
theorem qends_r {n : Nat} {x v1 : Int32} {sC sM : Sg} (h : WkT n 1 x sC sM) {p0 : Int} (hp : p0 ≤ (sC.1 7 4).toInt) (hv : v1.toInt = 1960 + 5 * x.toInt) {G : Sg → Sg → Prop} {K : Int32 → Sg → Option (Int32 × Sg)} (hK : K0 K) (KC KM : Sg → Option (Int32 × Sg)) (hk : ∀ s t, WkT n 1 x s t → p0 ≤ (s.1 7 4).toInt → QrE x s t → RQ (KC s) (bd (KM t) K) (Og G)) (m : Nat) : RQ (bd (f_X6_takeEnd_58 x (-1) 0 sC) (fun r5 s6 => if r5 = 0 then some (0, s6) else bd (f_X7_pass 106 s6) (fun r7 s8 => if r7 = 0 then some (0, s8) else ck (inr x 8) (bd (f_X6_takeEnd_59 x (s8.1 58 x.toNatClampNeg) 0 s8) (fun r10 s11 => if r10 = 0 then some (0, s11) else KC s11))))) (bd (bd (f_X12_twoHouses_b3 m v1 9 0 0 sM) (fun r6 s7 => if r6 = 0 then some (0, s7) else KM s7)) K) (Og G) := by
  have cl := cl_nat x
  have cl1 := cl_nat v1
  have hx := h.2.2.2.2.2
  have e1 : (1 : Int32).toInt = 1 := rfl
  have v10 : (v1 + 0).toNatClampNeg = 1920 + (40 + 5 * x.toNatClampNeg) := by
    have e0 : (0 : Int32).toInt = 0 := rfl
    have a := i_addx v1 0 (by omega)
    have c := cl_nat (v1 + 0)
    omega
  have v11 : (v1 + (0 + 1)).toNatClampNeg = 1920 + (41 + 5 * x.toNatClampNeg) := by
    have e0 : ((0 : Int32) + 1).toInt = 1 := rfl
    have a := i_addx v1 (0 + 1) (by omega)
    have c := cl_nat (v1 + (0 + 1))
    omega
  have v1c : v1.toNatClampNeg = 1920 + (40 + 5 * x.toNatClampNeg) := by omega
  have z0 : ∀ r : Int32, (((0 : Int32) >>> (r &&& 31)) &&& 1) = 0 := fun r => by
    apply Int32.toInt_inj.mp
    have : ((0 : Int32) >>> (r &&& 31)) = 0 := by simp
    rw [this]
    rfl
  have hK' := k0_c hK KM
  cases m with
  | zero => exact rq_0
  | succ m =>
    unfold f_X12_twoHouses_b3
    refine rm_b (rm_i (fun w => absurd w (by decide)) (fun _ => ?_))
    refine end58_r (q := 1) (by decide) rfl h hp (-1) 0 v1 9 0 0 (40 + 5 * x.toNatClampNeg) v10 (by unfold InW; omega) (Or.inl rfl) (f_X12_twoHouses_b3 m) (fun r r1 r2 => ?_) hK' _ (fun r s t g1 g2 g3 g4 g5 g6 => ?_)
    · constructor
      · rintro (w | w)
        · rw [w] at r1
          exact absurd r1 (by decide)
        · exact absurd (z0 r) w
      · rintro (w | w)
        · exact absurd rfl w.1
        · exact absurd w.1 (by decide)
    · refine rm_i (fun _ => ?_) (fun w => absurd rfl w)
      refine rm_b (rq_b2 (pass_w g1.1.1 g1.1.2.1 106 9 6 (by decide) rfl rfl) (fun u s8 u' t8 w => ?_))
      rcases w with ⟨y, y', w⟩ | ⟨y, y', w⟩ <;> subst y <;> subst y'
      · rw [if_neg (show ¬ (1 : Int32) = 0 by decide)]
        refine rm_i (fun y => absurd y i10) (fun _ => rq_cC (fun _ => ?_))
        have kp := kp_of w
        have h8 := wk_st w g1
        have q1 := tk_pos g1.1.1
        have q2 := w.2.2.2
        obtain ⟨⟨⟨y1, y2, y3, y4, y5, y6, y7, y8, y9, y10, y11, y12⟩, y13, y14, y15, y16, y17, y18, y19, y20⟩, y21, y22, y23, y24⟩ := kp
        have k58 : s8.1 58 x.toNatClampNeg = r := by rw [y6]; exact g3.1
        have m40 : t8.1 1 (1920 + (40 + 5 * x.toNatClampNeg)) = r := by rw [y21]; exact g3.2.1
        have m0 : t8.1 1 1920 = sM.1 1 1920 := by rw [y21]; exact g5 1920 (by omega)
        cases m with
        | zero => exact rq_0
        | succ m =>
          unfold f_X12_twoHouses_b3
          refine rm_i (fun w => absurd w (by decide)) (fun _ => ?_)
          rw [k58]
          refine end59_r (p0 := p0) (q := 1) (by decide) rfl h8 (by omega) r 0 v1 9 0 (0 + 1) (41 + 5 * x.toNatClampNeg) v11 (by unfold InW; omega) (Or.inr rfl) (f_X12_twoHouses_b3 m) (fun a a1 a2 => ?_) hK' _ (fun a s9 t9 j1 j2 j3 j4 j5 j6 => ?_)
          · rw [v1c, m40]
            constructor
            · rintro (w | w)
              · exact Or.inr ⟨rfl, w⟩
              · exact absurd (z0 a) w
            · rintro (w | w)
              · exact absurd rfl w.1
              · exact Or.inl w.2
          · refine rm_i (fun w => absurd w (by decide)) (fun _ => ?_)
            cases m with
            | zero => exact rq_0
            | succ m =>
              unfold f_X12_twoHouses_b3
              refine rm_i (fun _ => rm_s (rm_i (fun y => absurd y i10) (fun _ => hk s9 t9 j1 j2 ?_))) (fun w => absurd (by decide) w)
              have k9 : s9.1 58 x.toNatClampNeg = r := by rw [j4 58 (by decide) (by decide) (by decide)]; exact k58
              have n40 : t9.1 1 (1960 + 5 * x.toNatClampNeg) = r := by
                rw [j5 _ (by omega)]
                have e : 1960 + 5 * x.toNatClampNeg = 1920 + (40 + 5 * x.toNatClampNeg) := by omega
                rw [e]; exact m40
              have n41 : t9.1 1 (1961 + 5 * x.toNatClampNeg) = a := by
                have e : 1961 + 5 * x.toNatClampNeg = 1920 + (41 + 5 * x.toNatClampNeg) := by omega
                rw [e]; exact j3.2.1
              have n0 : t9.1 1 1920 = sM.1 1 1920 := (j5 1920 (by omega)).trans m0
              unfold QrE
              rw [k9, j3.1, n40, n41, n0]
              refine ⟨⟨rfl, rfl⟩, ⟨g3.2.2.1, g3.2.2.2.1⟩, ⟨j3.2.2.1, by rw [← m0]; exact j3.2.2.2.1⟩, fun e => j3.2.2.2.2 ⟨rfl, ?_⟩⟩
              rw [v1c, m40]
              exact e.symm
      · rw [if_pos rfl]
        refine rm_i (fun _ => rm_s ?_) (fun w => absurd rfl w)
        refine rm_i (fun _ => rm_s ?_) (fun w => absurd rfl w)
        rw [hK t8]
        exact rq_s (Or.inr ⟨rfl, rfl, w⟩)
abbrev LTQ : Nat := 25711008708143844408671393477458601640355251359289199185362944
/-! texts: a quarrel is counted -/
theorem qat_s (on ot : Nat → Int32) (q h : Nat) : qat on ot (q + 1) h = if (on q).toInt = (h : Int) ∨ (ot q).toInt = (h : Int) then qat on ot q h ||| bitI q else qat on ot q h := rfl
theorem join_p (x : Int32) (s : Sg) : PQ (f_X4_joinAt_52 x s) (fun _ t => t = pI (pI s 61 ((s.1 58 x.toNatClampNeg).toNatClampNeg) ((s.1 61 ((s.1 58 x.toNatClampNeg).toNatClampNeg)) ||| ((1 : Int32) <<< (x &&& 31)))) 61 ((s.1 59 x.toNatClampNeg).toNatClampNeg) (((pI s 61 ((s.1 58 x.toNatClampNeg).toNatClampNeg) ((s.1 61 ((s.1 58 x.toNatClampNeg).toNatClampNeg)) ||| ((1 : Int32) <<< (x &&& 31)))).1 61 ((s.1 59 x.toNatClampNeg).toNatClampNeg)) ||| ((1 : Int32) <<< (x &&& 31)))) := by
  unfold f_X4_joinAt_52
  refine pq_c (fun _ => pq_c (fun _ => pq_n (fun s3 e3 => pq_c (fun _ => pq_n (fun s5 e5 => pq_s ?_)))))
  have k : s3.1 59 x.toNatClampNeg = s.1 59 x.toNatClampNeg := by rw [e3, q_nc rfl]
  rw [k] at e5
  rw [e5, e3]
theorem bitI_x (x : Int32) (h : 0 ≤ x.toInt) : (1 : Int32) <<< (x &&& 31) = bitI x.toNatClampNeg := by
  have e : Int32.ofNat x.toNatClampNeg = x := by
    apply Int32.toInt_inj.mp
    have cl := cl_nat x
    have r := i_rg x
    rw [Int32.toInt_ofNat_of_lt (by omega)]
    omega
  unfold bitI
  rw [e]
/-- the reference's number behind 'needs', the class's row, the sets at both houses, the count on both sides -/
theorem qr_done {n : Nat} {x : Int32} {sC sM s t s' : Sg} {lo hi : Int} (h : WkT n 1 x sC sM) (hE : QrE x sC sM) (w : NuT n lo hi (1920 + (42 + 5 * x.toNatClampNeg)) sC sM s t) (hj : s' = pI (pI (pI s 60 x.toNatClampNeg (s.1 7 7)) 61 ((s.1 58 x.toNatClampNeg).toNatClampNeg) ((s.1 61 ((s.1 58 x.toNatClampNeg).toNatClampNeg)) ||| ((1 : Int32) <<< (x &&& 31)))) 61 ((s.1 59 x.toNatClampNeg).toNatClampNeg) (((pI (pI s 60 x.toNatClampNeg (s.1 7 7)) 61 ((s.1 58 x.toNatClampNeg).toNatClampNeg) ((s.1 61 ((s.1 58 x.toNatClampNeg).toNatClampNeg)) ||| ((1 : Int32) <<< (x &&& 31)))).1 61 ((s.1 59 x.toNatClampNeg).toNatClampNeg)) ||| ((1 : Int32) <<< (x &&& 31)))) : SR n (pI s' 52 14 ((s'.1 52 14) + 1)) (pI t 1 1921 ((t.1 1 1921) + 1)) := by
  obtain ⟨h1, h2, h3, h4, h5, h6⟩ := h
  obtain ⟨w1, w2, w3, w4, w5, w6⟩ := w
  obtain ⟨⟨k1, k2, k3, k4, k5, k6, k7, k8, k9, k10, k11, k12⟩, k13, k14, k15, k16, k17, k18, k19, k20⟩ := kc_of w2
  obtain ⟨⟨E1, E2⟩, E3, E4, E5⟩ := hE
  have cl := cl_nat x
  have o58 : s.1 58 x.toNatClampNeg = sC.1 58 x.toNatClampNeg := by rw [k6]
  have o59 : s.1 59 x.toNatClampNeg = sC.1 59 x.toNatClampNeg := by rw [k7]
  rw [o58, o59] at hj
  have b0 : 0 ≤ (sM.1 1 1920).toInt ∧ (sM.1 1 1920).toInt ≤ 8 := h3.2.1.1
  generalize hoa : sC.1 58 x.toNatClampNeg = oa at hj E1 E3 E5
  generalize hob : sC.1 59 x.toNatClampNeg = ob at hj E2 E4 E5
  have ca := cl_nat oa
  have cb := cl_nat ob
  have nab : ¬ oa.toNatClampNeg = ob.toNatClampNeg := fun e => E5 (Int32.toInt_inj.mp (by omega))
  have bx := bitI_x x h6.1
  rw [bx] at hj
  have e1 : (1 : Int32).toInt = 1 := rfl
  -- the class's cells
  have cf : ∀ c, ¬ c = 52 → ¬ c = 60 → ¬ c = 61 → (pI s' 52 14 ((s'.1 52 14) + 1)).1 c = s.1 c := fun c z1 z2 z3 => funext fun k => by
    rw [pI_1, if_neg (fun y => z1 y.1), hj, pI_1, if_neg (fun y => z3 y.1), pI_1, if_neg (fun y => z3 y.1), pI_1, if_neg (fun y => z2 y.1)]
  have e2 : (pI s' 52 14 ((s'.1 52 14) + 1)).2 = s.2 := by rw [hj]; rfl
  have c52 : ∀ k, ¬ k = 14 → (pI s' 52 14 ((s'.1 52 14) + 1)).1 52 k = sC.1 52 k := fun k hk => by
    rw [pI_1, if_neg (fun y => hk y.2), hj, q_nc rfl, q_nc rfl, q_nc rfl, k1]
  have c14 : (pI s' 52 14 ((s'.1 52 14) + 1)).1 52 14 = sC.1 52 14 + 1 := by
    rw [q_eq, hj, q_nc rfl, q_nc rfl, q_nc rfl, k1]
  have c60 : ∀ k, (pI s' 52 14 ((s'.1 52 14) + 1)).1 60 k = if k = x.toNatClampNeg then s.1 7 7 else sC.1 60 k := fun k => by
    rw [q_nc rfl, hj, q_nc rfl, q_nc rfl, pI_1]
    by_cases z : k = x.toNatClampNeg
    · rw [if_pos ⟨rfl, z⟩, if_pos z]
    · rw [if_neg (fun y => z y.2), if_neg z, k8]
  have c61 : ∀ k, (pI s' 52 14 ((s'.1 52 14) + 1)).1 61 k = if k = oa.toNatClampNeg ∨ k = ob.toNatClampNeg then sC.1 61 k ||| bitI x.toNatClampNeg else sC.1 61 k := fun k => by
    rw [q_nc rfl, hj, pI_1]
    by_cases z : k = ob.toNatClampNeg
    · rw [if_pos ⟨rfl, z⟩, if_pos (Or.inr z), pI_1, if_neg (fun y => nab y.2.symm), q_nc rfl, k9, z]
    · rw [if_neg (fun y => z y.2), pI_1]
      by_cases z2 : k = oa.toNatClampNeg
      · rw [if_pos ⟨rfl, z2⟩, if_pos (Or.inl z2), k9, z2]
      · rw [if_neg (fun y => z2 y.2), if_neg (fun y => y.elim z2 z), q_nc rfl, k9]
  -- the reference's cells
  have hM1 : (sM.1 1 1921).toInt = x.toInt := by rw [show sM.1 1 1921 = x from h5]
  have m21 : t.1 1 1921 = x := by rw [w6, if_neg (by omega)]; exact h5
  have eM : ∀ k, ¬ k = 1 → ¬ k = 42 + 5 * x.toNatClampNeg → mN (pI t 1 1921 ((t.1 1 1921) + 1)) k = mN sM k := fun k z1 z2 => by
    unfold mN
    rw [pI_1, if_neg (fun y => z1 (by have := y.2; omega)), w6, if_neg (by omega)]
  have mM1 : mN (pI t 1 1921 ((t.1 1 1921) + 1)) 1 = x + 1 := by
    show (pI t 1 1921 ((t.1 1 1921) + 1)).1 1 1921 = _
    rw [q_eq, m21]
  have m42 : mN (pI t 1 1921 ((t.1 1 1921) + 1)) (42 + 5 * x.toNatClampNeg) = s.1 7 7 := by
    unfold mN
    rw [pI_1, if_neg (fun y => by have := y.2; omega), w6, if_pos rfl]
  have ax : (x + 1).toInt = x.toInt + 1 := i_addx x 1 (show -2147483648 ≤ x.toInt + 1 ∧ x.toInt + 1 ≤ 2147483647 from by omega)
  have tk : TkRel n (pI s' 52 14 ((s'.1 52 14) + 1)) (pI t 1 1921 ((t.1 1 1921) + 1)) := by
    refine tk_f (L1 := LTQ) (L2 := 2 ^ 1) w1 ?_ (fr_x 1 rfl) rfl (m_and rfl)
    rw [hj]
    exact fr_i (fr_i (fr_i (fr_i fr_r 60 rfl rfl) 61 rfl rfl) 61 rfl rfl) 204 rfl rfl
  refine ⟨⟨tk, ?_, ?_⟩, ?_, ?_, ?_⟩
  · rw [q_nc rfl, fr_e w3 0 18 38 rfl rfl]; exact h1.2.1
  · unfold ToldS
    rw [cf 8 (by decide) (by decide) (by decide), k20, q_nc rfl, fr_e w3 0 20 40 rfl rfl]
    exact h1.2.2
  · obtain ⟨⟨a1, a2, a3, a4⟩, ⟨d0, d1, d2, d3⟩, ⟨c5, c6, c7⟩, cq, cA, cc, cg⟩ := h3
    have g1 : mN sM 1 = x := h5
    have g0 : mN sM 0 = sM.1 1 1920 := rfl
    rw [g1] at cq a2 d1 cA
    unfold PlanS PlanA
    rw [cf 58 (by decide) (by decide) (by decide), k6, cf 59 (by decide) (by decide) (by decide), k7, cf 62 (by decide) (by decide) (by decide), k10, cf 63 (by decide) (by decide) (by decide), k11, cf 64 (by decide) (by decide) (by decide), k12, cf 65 (by decide) (by decide) (by decide), k13, cf 66 (by decide) (by decide) (by decide), k14, c52 13 (by decide), c52 15 (by decide), c52 16 (by decide), c52 17 (by decide), c52 18 (by decide), c52 19 (by decide), c14, mM1, eM 0 (by decide) (by omega), eM 2 (by decide) (by omega), eM 3 (by decide) (by omega), eM 9 (by decide) (by omega), eM 13 (by decide) (by omega), eM 14 (by decide) (by omega)]
    refine ⟨⟨a1, by rw [a2], a3, a4⟩, ⟨d0, by omega, d2, d3⟩, ⟨c5, c6, c7⟩, fun q hq => ?_, fun k hk => ?_, fun c hc => ?_, fun g hg => ?_⟩
    · by_cases z : q = x.toNatClampNeg
      · rw [z, eM _ (by omega) (by omega), eM _ (by omega) (by omega), c60, if_pos rfl, m42, hoa, hob]
        refine ⟨⟨?_, ?_, rfl⟩, E3, E4, E5⟩
        · show oa = sM.1 1 (1920 + (40 + 5 * x.toNatClampNeg))
          rw [E1]
          exact congrArg (sM.1 1) (by omega)
        · show ob = sM.1 1 (1920 + (41 + 5 * x.toNatClampNeg))
          rw [E2]
          exact congrArg (sM.1 1) (by omega)
      · rw [eM _ (by omega) (by omega), eM _ (by omega) (by omega), eM _ (by omega) (by omega), c60, if_neg z]
        exact cq q (by omega)
    · have nx : (x + 1).toInt.toNat = x.toNatClampNeg + 1 := by omega
      have nx0 : x.toInt.toNat = x.toNatClampNeg := by omega
      rw [c61, nx, cA k hk, nx0, qat_s, hoa, hob]
      by_cases z : k = oa.toNatClampNeg ∨ k = ob.toNatClampNeg
      · rw [if_pos z, if_pos (by omega)]
      · rw [if_neg z, if_neg (by omega)]
    · rw [eM _ (by omega) (by omega), eM _ (by omega) (by omega), eM _ (by omega) (by omega)]
      exact cc c hc
    · rw [eM _ (by omega) (by omega), eM _ (by omega) (by omega)]
      exact cg g hg
  · unfold GrS
    rw [cf 67 (by decide) (by decide) (by decide), k15, cf 68 (by decide) (by decide) (by decide), k16, cf 69 (by decide) (by decide) (by decide), k17, cf 70 (by decide) (by decide) (by decide), k18, cf 71 (by decide) (by decide) (by decide), k19, cf 53 (by decide) (by decide) (by decide), k2]
    exact gr_x h4 (fun h hh => ⟨by rw [eM _ (by omega) (by omega)]; exact (h4.1 h hh).1, by rw [eM _ (by omega) (by omega)]; exact (h4.1 h hh).2.1, rfl, eM _ (by omega) (by omega)⟩) (fun g hg => by rw [eM _ (by omega) (by omega)]; exact h4.2.1 g hg) (fun q hq => ⟨rfl, eM _ (by omega) (by omega), eM _ (by omega) (by omega)⟩) (fun _ _ _ => rfl) (fun k k1 k2 k3 => eM k (by omega) (by omega)) ⟨eM 3 (by decide) (by omega), fun g _ _ => eM _ (by omega) (by omega)⟩
  · have hb : ∀ x, x < 4 → cnN sM x ≤ 8 ∧ (2 ≤ x → cnN sM x ≤ 4) := by
      have b := h3.2.1
      have d0 : mN sM 0 = sM.1 1 1920 := rfl
      have d1 : mN sM 1 = sM.1 1 1921 := rfl
      have d2 : mN sM 2 = sM.1 1 1922 := rfl
      have d3 : mN sM 3 = sM.1 1 1923 := rfl
      rw [d0, d1, d2, d3] at b
      refine u4 ?_ ?_ ?_ ?_
      · show (sM.1 1 1920).toInt.toNat ≤ 8 ∧ (2 ≤ 0 → (sM.1 1 1920).toInt.toNat ≤ 4)
        omega
      · show (sM.1 1 1921).toInt.toNat ≤ 8 ∧ (2 ≤ 1 → (sM.1 1 1921).toInt.toNat ≤ 4)
        omega
      · show (sM.1 1 1922).toInt.toNat ≤ 8 ∧ (2 ≤ 2 → (sM.1 1 1922).toInt.toNat ≤ 4)
        omega
      · show (sM.1 1 1923).toInt.toNat ≤ 8 ∧ (2 ≤ 3 → (sM.1 1 1923).toInt.toNat ≤ 4)
        omega
    have c1 : cnN (pI t 1 1921 ((t.1 1 1921) + 1)) 1 = cnN sM 1 + 1 := by
      show ((pI t 1 1921 ((t.1 1 1921) + 1)).1 1 1921).toInt.toNat = (sM.1 1 1921).toInt.toNat + 1
      rw [q_eq, m21]
      omega
    have c2 : ∀ z, ¬ z = 1 → cnN (pI t 1 1921 ((t.1 1 1921) + 1)) z = cnN sM z := fun z hz => by
      unfold cnN
      by_cases y : z < 4
      · rw [if_pos y, if_pos y, pI_1, if_neg (fun v => hz (by have := v.2; omega)), w6, if_neg (by omega)]
      · rw [if_neg y, if_neg y]
    have d := nm_done (q := 1) (by decide) (mM := fun _ => 0) h2 hb ⟨c1, c2⟩
    have nn : nmN (pI t 1 1921 ((t.1 1 1921) + 1)) = nmN sM := by
      unfold nmN
      have : (pI t 1 1921 ((t.1 1 1921) + 1)).2 2 = sM.2 2 := funext fun k => fr_e2 w3 2 k 2 rfl rfl
      rw [this]
    unfold NmS
    rw [nn, cf 56 (by decide) (by decide) (by decide), k4, cf 57 (by decide) (by decide) (by decide), k5, c52 12 (by decide), e2, k3]
    exact d
/-! texts: a quarrel -/
theorem qre_st {n : Nat} {x : Int32} {sC sM s t : Sg} (w : StT n sC sM s t) (h : QrE x sC sM) : QrE x s t := by
  obtain ⟨⟨⟨y1, y2, y3, y4, y5, y6, y7, y8, y9, y10, y11, y12⟩, y13, y14, y15, y16, y17, y18, y19, y20⟩, y21, y22, y23, y24⟩ := kp_of w
  unfold QrE
  rw [y6, y7, y21]
  exact h
theorem quarrel_r {n : Nat} {sC sM : Sg} (h : SR n sC sM) : RQ (f_X6_takeQuarrel sC) (bd (f_X12_aQuarrel sM) (fun r s => f_X12_streetPart_b102 r s)) (Og (PaT n sC sM)) := by
  obtain ⟨h1, h2, h3, h4⟩ := h
  have hcnt : sC.1 52 14 = sM.1 1 1921 := h2.1.2.1
  have q0 := tk_pos h1.1
  unfold f_X6_takeQuarrel f_X12_aQuarrel
  rw [hcnt]
  refine rm_n (fun x1 ex1 => rm_b (rq_b2 (new_r (q := 1) h1 h2 h3 h4 (by decide) 104 8 1 8 rfl rfl rfl rfl) (fun r s r' t g => og_k sg_K0 g (fun g => ?_))))
  have wk := wk_of (by decide) g
  have g5 := g.2.2.2.2.1
  have hx := wk.2.2.2.2.2
  have wk : WkT n 1 (sM.1 1 1921) s t := wk
  have hx : 0 ≤ (sM.1 1 1921).toInt ∧ (sM.1 1 1921).toInt < 8 := ⟨hx.1, hx.2.1⟩
  generalize sM.1 1 1921 = x at wk hx ex1 ⊢
  have cl := cl_nat x
  have e5 : (5 : Int32).toInt = 5 := rfl
  have e2 : (2 : Int32).toInt = 2 := rfl
  have e1960 : (1960 : Int32).toInt = 1960 := rfl
  have mx : (5 * x).toInt = 5 * x.toInt := i_mulx 5 x (show -2147483648 ≤ 5 * x.toInt ∧ 5 * x.toInt ≤ 2147483647 from by omega)
  have ax : x1.toInt = 1960 + 5 * x.toInt := by
    rw [ex1]
    have := i_addx 1960 (5 * x) (show -2147483648 ≤ 1960 + (5 * x).toInt ∧ 1960 + (5 * x).toInt ≤ 2147483647 from by omega)
    omega
  have ax2 : (x1 + 2).toInt = x1.toInt + 2 := i_addx x1 2 (show -2147483648 ≤ x1.toInt + 2 ∧ x1.toInt + 2 ≤ 2147483647 from by omega)
  have clx2 := cl_nat (x1 + 2)
  have dx2 : (x1 + 2).toNatClampNeg = 1920 + (42 + 5 * x.toNatClampNeg) := by omega
  refine rm_b (rq_b2 (pass_w wk.1.1 wk.1.2.1 105 8 5 (by decide) rfl rfl) (fun u s4 u' t5 w => og_k sg_K0 w (fun w => ?_)))
  have wk4 := wk_st w wk
  have q1 := tk_pos wk.1.1
  have q2 := w.2.2.2
  unfold f_X12_twoHouses
  refine qends_r wk4 (p0 := (sC.1 7 2).toInt) (by omega) ax sg_K0 _ _ (fun sa ta ha pa Ea => ?_) BIG
  refine rm_b (rq_b2 (pass_w ha.1.1 ha.1.2.1 107 10 7 (by decide) rfl rfl) (fun u sb u' tb w2 => og_k sg_K0 w2 (fun w2 => ?_)))
  have hb := wk_st w2 ha
  have Eb := qre_st w2 Ea
  have q3 := tk_pos ha.1.1
  have q4 := w2.2.2.2
  refine rm_b (rq_b2 (num_r hb.1.1 hb.1.2.1 1 99 (x1 + 2) _ dx2) (fun u sc u' tc w3 => og_k sg_K0 w3 (fun w3 => ?_)))
  have q5 := tk_pos hb.1.1
  have q6 := w3.2.2.2.1
  refine rq_nC (fun s16 e16 => rq_bC (join_p x s16) (fun _ s18 e18 => rq_nC (fun s19 e19 => rm_n (fun t12 e12 => rm_s ?_))))
  have a58 : s16.1 58 x.toNatClampNeg = sc.1 58 x.toNatClampNeg := by rw [e16, q_nc rfl]
  have a59 : s16.1 59 x.toNatClampNeg = sc.1 59 x.toNatClampNeg := by rw [e16, q_nc rfl]
  have a61 : ∀ k, s16.1 61 k = sc.1 61 k := fun k => by rw [e16, q_nc rfl]
  rw [a58, a59, a61, e16] at e18
  have fin := qr_done hb Eb w3 e18
  rw [e19, e12]
  refine semi_r fin ?_
  rw [q_nc rfl, e18, q_nc rfl, q_nc rfl, q_nc rfl]
  omega
/-! texts: a cat -/
theorem and1_e (b : Int32) : ¬ (b &&& 1) = 0 ↔ (b &&& 1) = 1 := by
  have h := i_and b 1 (by decide)
  have e1 : (1 : Int32).toInt = 1 := rfl
  have e0 : (0 : Int32).toInt = 0 := rfl
  constructor
  · intro w
    have := i_ne w
    exact Int32.toInt_inj.mp (by omega)
  · intro w z
    rw [w] at z
    exact absurd z (by decide)
/-- a cat's ends are there -/
def CtE (x : Int32) (s t : Sg) : Prop := (s.1 62 x.toNatClampNeg = t.1 1 (2000 + 3 * x.toNatClampNeg) ∧ s.1 63 x.toNatClampNeg = t.1 1 (2001 + 3 * x.toNatClampNeg)) ∧ (0 ≤ (s.1 62 x.toNatClampNeg).toInt ∧ (s.1 62 x.toNatClampNeg).toInt < (t.1 1 1920).toInt) ∧ (0 ≤ (s.1 63 x.toNatClampNeg).toInt ∧ (s.1 63 x.toNatClampNeg).toInt < (t.1 1 1920).toInt) ∧ ¬ s.1 62 x.toNatClampNeg = s.1 63 x.toNatClampNeg
theorem cends_r {n : Nat} {x v1 : Int32} {sC sM : Sg} (h : WkT n 2 x sC sM) {p0 : Int} (hp : p0 ≤ (sC.1 7 4).toInt) (hv : v1.toInt = 2000 + 3 * x.toInt) {G : Sg → Sg → Prop} {K : Int32 → Sg → Option (Int32 × Sg)} (hK : K0 K) (KC KM : Sg → Option (Int32 × Sg)) (hk : ∀ s t, WkT n 2 x s t → p0 ≤ (s.1 7 4).toInt → CtE x s t → RQ (KC s) (bd (KM t) K) (Og G)) (m : Nat) : RQ (bd (f_X6_takeEnd_62 x (-1) (sC.1 52 17) sC) (fun r5 s6 => if r5 = 0 then some (0, s6) else bd (f_X7_pass 110 s6) (fun r7 s8 => if r7 = 0 then some (0, s8) else ck (inr x 4) (bd (f_X6_takeEnd_63 x (s8.1 62 x.toNatClampNeg) (s8.1 52 17) s8) (fun r10 s11 => if r10 = 0 then some (0, s11) else KC s11))))) (bd (bd (f_X12_twoHouses_b3 m v1 12 1 0 sM) (fun r6 s7 => if r6 = 0 then some (0, s7) else KM s7)) K) (Og G) := by
  have cl := cl_nat x
  have cl1 := cl_nat v1
  have hx := h.2.2.2.2.2
  have e1 : (1 : Int32).toInt = 1 := rfl
  have v10 : (v1 + 0).toNatClampNeg = 1920 + (80 + 3 * x.toNatClampNeg) := by
    have e0 : (0 : Int32).toInt = 0 := rfl
    have a := i_addx v1 0 (by omega)
    have c := cl_nat (v1 + 0)
    omega
  have v11 : (v1 + (0 + 1)).toNatClampNeg = 1920 + (81 + 3 * x.toNatClampNeg) := by
    have e0 : ((0 : Int32) + 1).toInt = 1 := rfl
    have a := i_addx v1 (0 + 1) (by omega)
    have c := cl_nat (v1 + (0 + 1))
    omega
  have v1c : v1.toNatClampNeg = 1920 + (80 + 3 * x.toNatClampNeg) := by omega
  have g9 : sC.1 52 17 = sM.1 1 1929 := h.2.2.1.2.2.1.1
  have hK' := k0_c hK KM
  cases m with
  | zero => exact rq_0
  | succ m =>
    unfold f_X12_twoHouses_b3
    refine rm_b (rm_i (fun w => absurd w (by decide)) (fun _ => ?_))
    refine end62_r (q := 2) (by decide) rfl h hp (-1) (sC.1 52 17) v1 12 1 0 (80 + 3 * x.toNatClampNeg) v10 (by unfold InW; omega) (Or.inl rfl) (f_X12_twoHouses_b3 m) (fun r r1 r2 => ?_) hK' _ (fun r s t g1 g2 g3 g4 g5 g6 => ?_)
    · rw [g9, and1_e]
      constructor
      · rintro (w | w)
        · rw [w] at r1
          exact absurd r1 (by decide)
        · exact Or.inl ⟨by decide, w⟩
      · rintro (w | w)
        · exact Or.inr w.2
        · exact absurd w.1 (by decide)
    · refine rm_i (fun _ => ?_) (fun w => absurd rfl w)
      refine rm_b (rq_b2 (pass_w g1.1.1 g1.1.2.1 110 12 10 (by decide) rfl rfl) (fun u s8 u' t8 w => ?_))
      rcases w with ⟨y, y', w⟩ | ⟨y, y', w⟩ <;> subst y <;> subst y'
      · rw [if_neg (show ¬ (1 : Int32) = 0 by decide)]
        refine rm_i (fun y => absurd y i10) (fun _ => rq_cC (fun _ => ?_))
        have kp := kp_of w
        have h8 := wk_st w g1
        have q1 := tk_pos g1.1.1
        have q2 := w.2.2.2
        obtain ⟨⟨⟨y1, y2, y3, y4, y5, y6, y7, y8, y9, y10, y11, y12⟩, y13, y14, y15, y16, y17, y18, y19, y20⟩, y21, y22, y23, y24⟩ := kp
        have k62 : s8.1 62 x.toNatClampNeg = r := by rw [y10]; exact g3.1
        have m40 : t8.1 1 (1920 + (80 + 3 * x.toNatClampNeg)) = r := by rw [y21]; exact g3.2.1
        have m0 : t8.1 1 1920 = sM.1 1 1920 := by rw [y21]; exact g5 1920 (by omega)
        cases m with
        | zero => exact rq_0
        | succ m =>
          unfold f_X12_twoHouses_b3
          refine rm_i (fun w => absurd w (by decide)) (fun _ => ?_)
          rw [k62]
          refine end63_r (p0 := p0) (q := 2) (by decide) rfl h8 (by omega) r (s8.1 52 17) v1 12 1 (0 + 1) (81 + 3 * x.toNatClampNeg) v11 (by unfold InW; omega) (Or.inr rfl) (f_X12_twoHouses_b3 m) (fun a a1 a2 => ?_) hK' _ (fun a s9 t9 j1 j2 j3 j4 j5 j6 => ?_)
          · have g8 : s8.1 52 17 = t8.1 1 1929 := h8.2.2.1.2.2.1.1
            rw [v1c, m40, g8, and1_e]
            constructor
            · rintro (w | w)
              · exact Or.inr ⟨rfl, w⟩
              · exact Or.inl ⟨by decide, w⟩
            · rintro (w | w)
              · exact Or.inr w.2
              · exact Or.inl w.2
          · refine rm_i (fun w => absurd w (by decide)) (fun _ => ?_)
            cases m with
            | zero => exact rq_0
            | succ m =>
              unfold f_X12_twoHouses_b3
              refine rm_i (fun _ => rm_s (rm_i (fun y => absurd y i10) (fun _ => hk s9 t9 j1 j2 ?_))) (fun w => absurd (by decide) w)
              have k9 : s9.1 62 x.toNatClampNeg = r := by rw [j4 62 (by decide) (by decide) (by decide)]; exact k62
              have n40 : t9.1 1 (2000 + 3 * x.toNatClampNeg) = r := by
                rw [j5 _ (by omega)]
                have e : 2000 + 3 * x.toNatClampNeg = 1920 + (80 + 3 * x.toNatClampNeg) := by omega
                rw [e]; exact m40
              have n41 : t9.1 1 (2001 + 3 * x.toNatClampNeg) = a := by
                have e : 2001 + 3 * x.toNatClampNeg = 1920 + (81 + 3 * x.toNatClampNeg) := by omega
                rw [e]; exact j3.2.1
              have n0 : t9.1 1 1920 = sM.1 1 1920 := (j5 1920 (by omega)).trans m0
              unfold CtE
              rw [k9, j3.1, n40, n41, n0]
              refine ⟨⟨rfl, rfl⟩, ⟨g3.2.2.1, g3.2.2.2.1⟩, ⟨j3.2.2.1, by rw [← m0]; exact j3.2.2.2.1⟩, fun e => j3.2.2.2.2 ⟨rfl, ?_⟩⟩
              rw [v1c, m40]
              exact e.symm
      · rw [if_pos rfl]
        refine rm_i (fun _ => rm_s ?_) (fun w => absurd rfl w)
        refine rm_i (fun _ => rm_s ?_) (fun w => absurd rfl w)
        rw [hK t8]
        exact rq_s (Or.inr ⟨rfl, rfl, w⟩)
/-! texts: a cat is counted -/
abbrev LTK : Nat := 51422017416287688817342786954917203280710514247793444439195648
theorem ct_done {n : Nat} {x : Int32} {sC sM s t s' : Sg} {lo hi : Int} (h : WkT n 2 x sC sM) (hE : CtE x sC sM) (w : NuT n lo hi (1920 + (82 + 3 * x.toNatClampNeg)) sC sM s t) (hj : s' = pI s 64 x.toNatClampNeg (s.1 7 7)) : SR n (pI s' 52 15 ((s'.1 52 15) + 1)) (pI t 1 1922 ((t.1 1 1922) + 1)) := by
  obtain ⟨h1, h2, h3, h4, h5, h6⟩ := h
  obtain ⟨w1, w2, w3, w4, w5, w6⟩ := w
  obtain ⟨⟨k1, k2, k3, k4, k5, k6, k7, k8, k9, k10, k11, k12⟩, k13, k14, k15, k16, k17, k18, k19, k20⟩ := kc_of w2
  obtain ⟨⟨E1, E2⟩, E3, E4, E5⟩ := hE
  have cl := cl_nat x
  have x4 : x.toInt < 4 := h6.2.2 (by decide)
  have e1 : (1 : Int32).toInt = 1 := rfl
  -- the class's cells
  have cf : ∀ c, ¬ c = 52 → ¬ c = 64 → (pI s' 52 15 ((s'.1 52 15) + 1)).1 c = s.1 c := fun c z1 z2 => funext fun k => by
    rw [pI_1, if_neg (fun y => z1 y.1), hj, pI_1, if_neg (fun y => z2 y.1)]
  have e2 : (pI s' 52 15 ((s'.1 52 15) + 1)).2 = s.2 := by rw [hj]; rfl
  have c52 : ∀ k, ¬ k = 15 → (pI s' 52 15 ((s'.1 52 15) + 1)).1 52 k = sC.1 52 k := fun k hk => by
    rw [pI_1, if_neg (fun y => hk y.2), hj, q_nc rfl, k1]
  have c15 : (pI s' 52 15 ((s'.1 52 15) + 1)).1 52 15 = sC.1 52 15 + 1 := by
    rw [q_eq, hj, q_nc rfl, k1]
  have c64 : ∀ k, (pI s' 52 15 ((s'.1 52 15) + 1)).1 64 k = if k = x.toNatClampNeg then s.1 7 7 else sC.1 64 k := fun k => by
    rw [q_nc rfl, hj, pI_1]
    by_cases z : k = x.toNatClampNeg
    · rw [if_pos ⟨rfl, z⟩, if_pos z]
    · rw [if_neg (fun y => z y.2), if_neg z, k12]
  -- the reference's cells
  have hM1 : (sM.1 1 1922).toInt = x.toInt := by rw [show sM.1 1 1922 = x from h5]
  have m21 : t.1 1 1922 = x := by rw [w6, if_neg (by omega)]; exact h5
  have eM : ∀ k, ¬ k = 2 → ¬ k = 82 + 3 * x.toNatClampNeg → mN (pI t 1 1922 ((t.1 1 1922) + 1)) k = mN sM k := fun k z1 z2 => by
    unfold mN
    rw [pI_1, if_neg (fun y => z1 (by have := y.2; omega)), w6, if_neg (by omega)]
  have mM1 : mN (pI t 1 1922 ((t.1 1 1922) + 1)) 2 = x + 1 := by
    show (pI t 1 1922 ((t.1 1 1922) + 1)).1 1 1922 = _
    rw [q_eq, m21]
  have m42 : mN (pI t 1 1922 ((t.1 1 1922) + 1)) (82 + 3 * x.toNatClampNeg) = s.1 7 7 := by
    unfold mN
    rw [pI_1, if_neg (fun y => by have := y.2; omega), w6, if_pos rfl]
  have ax : (x + 1).toInt = x.toInt + 1 := i_addx x 1 (show -2147483648 ≤ x.toInt + 1 ∧ x.toInt + 1 ≤ 2147483647 from by omega)
  have tk : TkRel n (pI s' 52 15 ((s'.1 52 15) + 1)) (pI t 1 1922 ((t.1 1 1922) + 1)) := by
    refine tk_f (L1 := LTK) (L2 := 2 ^ 1) w1 ?_ (fr_x 1 rfl) rfl (m_and rfl)
    rw [hj]
    exact fr_i (fr_i fr_r 64 rfl rfl) 205 rfl rfl
  refine ⟨⟨tk, ?_, ?_⟩, ?_, ?_, ?_⟩
  · rw [q_nc rfl, fr_e w3 0 18 38 rfl rfl]; exact h1.2.1
  · unfold ToldS
    rw [cf 8 (by decide) (by decide), k20, q_nc rfl, fr_e w3 0 20 40 rfl rfl]
    exact h1.2.2
  · obtain ⟨⟨a1, a2, a3, a4⟩, ⟨d0, d1, d2, d3⟩, ⟨c5, c6, c7⟩, cq, cA, cc, cg⟩ := h3
    have g1 : mN sM 2 = x := h5
    have g0 : mN sM 0 = sM.1 1 1920 := rfl
    rw [g1] at cc a3 d2
    unfold PlanS PlanA
    rw [cf 58 (by decide) (by decide), k6, cf 59 (by decide) (by decide), k7, cf 60 (by decide) (by decide), k8, cf 61 (by decide) (by decide), k9, cf 62 (by decide) (by decide), k10, cf 63 (by decide) (by decide), k11, cf 65 (by decide) (by decide), k13, cf 66 (by decide) (by decide), k14, c52 13 (by decide), c52 14 (by decide), c52 16 (by decide), c52 17 (by decide), c52 18 (by decide), c52 19 (by decide), c15, mM1, eM 0 (by decide) (by omega), eM 1 (by decide) (by omega), eM 3 (by decide) (by omega), eM 9 (by decide) (by omega), eM 13 (by decide) (by omega), eM 14 (by decide) (by omega)]
    refine ⟨⟨a1, a2, by rw [a3], a4⟩, ⟨d0, d1, by omega, d3⟩, ⟨c5, c6, c7⟩, fun q hq => ?_, cA, fun c hc => ?_, fun g hg => ?_⟩
    · have z := cq q hq
      rw [eM _ (by omega) (by omega), eM _ (by omega) (by omega), eM _ (by omega) (by omega)]
      exact z
    · by_cases z : c = x.toNatClampNeg
      · rw [z, eM _ (by omega) (by omega), eM _ (by omega) (by omega), c64, if_pos rfl, m42]
        refine ⟨⟨?_, ?_, rfl⟩, E3, E4, E5⟩
        · show _ = sM.1 1 (1920 + (80 + 3 * x.toNatClampNeg))
          rw [E1]
          exact congrArg (sM.1 1) (by omega)
        · show _ = sM.1 1 (1920 + (81 + 3 * x.toNatClampNeg))
          rw [E2]
          exact congrArg (sM.1 1) (by omega)
      · rw [eM _ (by omega) (by omega), eM _ (by omega) (by omega), eM _ (by omega) (by omega), c64, if_neg z]
        exact cc c (by omega)
    · rw [eM _ (by omega) (by omega), eM _ (by omega) (by omega)]
      exact cg g hg
  · unfold GrS
    rw [cf 67 (by decide) (by decide), k15, cf 68 (by decide) (by decide), k16, cf 69 (by decide) (by decide), k17, cf 70 (by decide) (by decide), k18, cf 71 (by decide) (by decide), k19, cf 53 (by decide) (by decide), k2]
    exact gr_x h4 (fun h hh => ⟨by rw [eM _ (by omega) (by omega)]; exact (h4.1 h hh).1, by rw [eM _ (by omega) (by omega)]; exact (h4.1 h hh).2.1, rfl, eM _ (by omega) (by omega)⟩) (fun g hg => by rw [eM _ (by omega) (by omega)]; exact h4.2.1 g hg) (fun q hq => ⟨rfl, eM _ (by omega) (by omega), eM _ (by omega) (by omega)⟩) (fun _ _ _ => rfl) (fun k k1 k2 k3 => eM k (by omega) (by omega)) ⟨eM 3 (by decide) (by omega), fun g _ _ => eM _ (by omega) (by omega)⟩
  · have hb : ∀ x, x < 4 → cnN sM x ≤ 8 ∧ (2 ≤ x → cnN sM x ≤ 4) := by
      have b := h3.2.1
      have d0 : mN sM 0 = sM.1 1 1920 := rfl
      have d1 : mN sM 1 = sM.1 1 1921 := rfl
      have d2 : mN sM 2 = sM.1 1 1922 := rfl
      have d3 : mN sM 3 = sM.1 1 1923 := rfl
      rw [d0, d1, d2, d3] at b
      refine u4 ?_ ?_ ?_ ?_
      · show (sM.1 1 1920).toInt.toNat ≤ 8 ∧ (2 ≤ 0 → (sM.1 1 1920).toInt.toNat ≤ 4)
        omega
      · show (sM.1 1 1921).toInt.toNat ≤ 8 ∧ (2 ≤ 1 → (sM.1 1 1921).toInt.toNat ≤ 4)
        omega
      · show (sM.1 1 1922).toInt.toNat ≤ 8 ∧ (2 ≤ 2 → (sM.1 1 1922).toInt.toNat ≤ 4)
        omega
      · show (sM.1 1 1923).toInt.toNat ≤ 8 ∧ (2 ≤ 3 → (sM.1 1 1923).toInt.toNat ≤ 4)
        omega
    have c1 : cnN (pI t 1 1922 ((t.1 1 1922) + 1)) 2 = cnN sM 2 + 1 := by
      show ((pI t 1 1922 ((t.1 1 1922) + 1)).1 1 1922).toInt.toNat = (sM.1 1 1922).toInt.toNat + 1
      rw [q_eq, m21]
      omega
    have c2 : ∀ z, ¬ z = 2 → cnN (pI t 1 1922 ((t.1 1 1922) + 1)) z = cnN sM z := fun z hz => by
      unfold cnN
      by_cases y : z < 4
      · rw [if_pos y, if_pos y, pI_1, if_neg (fun v => hz (by have := v.2; omega)), w6, if_neg (by omega)]
      · rw [if_neg y, if_neg y]
    have d := nm_done (q := 2) (by decide) (mM := fun _ => 0) h2 hb ⟨c1, c2⟩
    have nn : nmN (pI t 1 1922 ((t.1 1 1922) + 1)) = nmN sM := by
      unfold nmN
      have : (pI t 1 1922 ((t.1 1 1922) + 1)).2 2 = sM.2 2 := funext fun k => fr_e2 w3 2 k 2 rfl rfl
      rw [this]
    unfold NmS
    rw [nn, cf 56 (by decide) (by decide), k4, cf 57 (by decide) (by decide), k5, c52 12 (by decide), e2, k3]
    exact d
theorem cte_st {n : Nat} {x : Int32} {sC sM s t : Sg} (w : StT n sC sM s t) (h : CtE x sC sM) : CtE x s t := by
  obtain ⟨⟨⟨y1, y2, y3, y4, y5, y6, y7, y8, y9, y10, y11, y12⟩, y13, y14, y15, y16, y17, y18, y19, y20⟩, y21, y22, y23, y24⟩ := kp_of w
  unfold CtE
  rw [y10, y11, y21]
  exact h
theorem cat_r {n : Nat} {sC sM : Sg} (h : SR n sC sM) : RQ (f_X6_takeCat sC) (bd (f_X12_aCat sM) (fun r s => f_X12_streetPart_b102 r s)) (Og (PaT n sC sM)) := by
  obtain ⟨h1, h2, h3, h4⟩ := h
  have hcnt : sC.1 52 15 = sM.1 1 1922 := h2.1.2.2.1
  have q0 := tk_pos h1.1
  unfold f_X6_takeCat f_X12_aCat
  rw [hcnt]
  refine rm_n (fun x1 ex1 => rm_b (rq_b2 (new_r (q := 2) h1 h2 h3 h4 (by decide) 108 4 2 16 rfl rfl rfl rfl) (fun r s r' t g => og_k sg_K0 g (fun g => ?_))))
  have wk := wk_of (by decide) g
  have g5 := g.2.2.2.2.1
  have hx := wk.2.2.2.2.2
  have wk : WkT n 2 (sM.1 1 1922) s t := wk
  have hx : 0 ≤ (sM.1 1 1922).toInt ∧ (sM.1 1 1922).toInt < 4 := ⟨hx.1, hx.2.2 (by decide)⟩
  generalize sM.1 1 1922 = x at wk hx ex1 ⊢
  have cl := cl_nat x
  have e5 : (3 : Int32).toInt = 3 := rfl
  have e2 : (2 : Int32).toInt = 2 := rfl
  have e2000 : (2000 : Int32).toInt = 2000 := rfl
  have mx : (3 * x).toInt = 3 * x.toInt := i_mulx 3 x (show -2147483648 ≤ 3 * x.toInt ∧ 3 * x.toInt ≤ 2147483647 from by omega)
  have ax : x1.toInt = 2000 + 3 * x.toInt := by
    rw [ex1]
    have := i_addx 2000 (3 * x) (show -2147483648 ≤ 2000 + (3 * x).toInt ∧ 2000 + (3 * x).toInt ≤ 2147483647 from by omega)
    omega
  have ax2 : (x1 + 2).toInt = x1.toInt + 2 := i_addx x1 2 (show -2147483648 ≤ x1.toInt + 2 ∧ x1.toInt + 2 ≤ 2147483647 from by omega)
  have clx2 := cl_nat (x1 + 2)
  have dx2 : (x1 + 2).toNatClampNeg = 1920 + (82 + 3 * x.toNatClampNeg) := by omega
  refine rm_b (rq_b2 (pass_w wk.1.1 wk.1.2.1 109 11 9 (by decide) rfl rfl) (fun u s4 u' t5 w => og_k sg_K0 w (fun w => ?_)))
  have wk4 := wk_st w wk
  have q1 := tk_pos wk.1.1
  have q2 := w.2.2.2
  unfold f_X12_twoHouses
  refine cends_r wk4 (p0 := (sC.1 7 2).toInt) (by omega) ax sg_K0 _ _ (fun sa ta ha pa Ea => ?_) BIG
  refine rm_b (rq_b2 (pass_w ha.1.1 ha.1.2.1 111 13 11 (by decide) rfl rfl) (fun u sb u' tb w2 => og_k sg_K0 w2 (fun w2 => ?_)))
  have hb := wk_st w2 ha
  have Eb := cte_st w2 Ea
  have q3 := tk_pos ha.1.1
  have q4 := w2.2.2.2
  refine rm_b (rq_b2 (num_r hb.1.1 hb.1.2.1 1 99 (x1 + 2) _ dx2) (fun u sc u' tc w3 => og_k sg_K0 w3 (fun w3 => ?_)))
  have q5 := tk_pos hb.1.1
  have q6 := w3.2.2.2.1
  refine rq_nC (fun s16 e16 => rq_nC (fun s19 e19 => rm_n (fun t12 e12 => rm_s ?_)))
  have fin := ct_done hb Eb w3 e16
  rw [e19, e12]
  refine semi_r fin ?_
  rw [q_nc rfl, e16, q_nc rfl]
  omega
/-! texts: a grocer -/
def KCL : List Nat := [52, 53, 56, 57, 58, 59, 60, 61, 62, 63, 64, 65, 67, 68, 69, 70, 71, 8]
theorem kcl_of {sC s : Sg} (h : KpC sC s) : ∀ c, c ∈ KCL → s.1 c = sC.1 c := by
  obtain ⟨⟨k1, k2, k3, k4, k5, k6, k7, k8, k9, k10, k11, k12⟩, k13, k14, k15, k16, k17, k18, k19, k20⟩ := h
  intro c hc
  unfold KCL at hc
  simp only [List.mem_cons, List.not_mem_nil, or_false] at hc
  rcases hc with e | e | e | e | e | e | e | e | e | e | e | e | e | e | e | e | e | e <;> subst e <;> assumption
abbrev LT65 : Nat := 110680464442257309696
/-- the stock of a grocer in work -/
theorem wk_stock {n : Nat} {x : Int32} {lo hi : Int} {sC sM s t : Sg} (h : WkT n 3 x sC sM) (w : NuT n lo hi (1920 + (92 + 3 * x.toNatClampNeg)) sC sM s t) : WkT n 3 x (pI s 71 x.toNatClampNeg (s.1 7 7)) t := by
  obtain ⟨h1, h2, h3, h4, h5, h6⟩ := h
  obtain ⟨w1, w2, w3, w4, w5, w6⟩ := w
  have cl := cl_nat x
  have x4 : x.toInt < 4 := h6.2.2 (by decide)
  have hx : x.toNatClampNeg < 4 := by omega
  obtain ⟨⟨k1, k2, k3, k4, k5, k6, k7, k8, k9, k10, k11, k12⟩, k13, k14, k15, k16, k17, k18, k19, k20⟩ := kc_of w2
  have ef : ∀ c, ¬ c = 71 → (pI s 71 x.toNatClampNeg (s.1 7 7)).1 c = s.1 c := fun c hc => funext fun k => by rw [pI_1, if_neg (fun z => hc z.1)]
  have eM : ∀ k, ¬ k = 92 + 3 * x.toNatClampNeg → mN t k = mN sM k := fun k hk => by
    unfold mN
    rw [w6, if_neg (by omega)]
  have m2 : t.2 2 = sM.2 2 := funext fun k => fr_e2 w3 2 k 2 rfl rfl
  have c0 : cnN t = cnN sM := cn_e (fun k hk => by rw [w6, if_neg (by omega)])
  have n0 : nmN t = nmN sM := by unfold nmN; rw [m2]
  have e55 : (pI s 71 x.toNatClampNeg (s.1 7 7)).2 55 = sC.2 55 := k3
  refine ⟨⟨?_, ?_, ?_⟩, ?_, ?_, ?_, ?_, h6⟩
  · exact tk_f (L1 := 2 ^ 71) (L2 := 0) w1 (fr_x 71 rfl) fr_r (m_and rfl) rfl
  · rw [fr_e w3 0 18 38 rfl rfl]; exact h1.2.1
  · unfold ToldS
    rw [ef 8 (by decide), k20, fr_e w3 0 20 40 rfl rfl]
    exact h1.2.2
  · unfold NmP at h2 ⊢
    rw [(ef 52 (by decide)).trans k1, e55, (ef 56 (by decide)).trans k4, (ef 57 (by decide)).trans k5, c0, n0]
    exact h2
  · unfold PlanS
    rw [(ef 52 (by decide)).trans k1, (ef 58 (by decide)).trans k6, (ef 59 (by decide)).trans k7, (ef 60 (by decide)).trans k8, (ef 61 (by decide)).trans k9, (ef 62 (by decide)).trans k10, (ef 63 (by decide)).trans k11, (ef 64 (by decide)).trans k12, (ef 65 (by decide)).trans k13, (ef 66 (by decide)).trans k14]
    exact plan_x h3 (fun _ _ _ => rfl) (fun k hk => eM k (by omega)) ⟨h3.2.2.1.1.trans (eM 9 (by omega)).symm, h3.2.2.1.2.1.trans (eM 13 (by omega)).symm, h3.2.2.1.2.2.trans (eM 14 (by omega)).symm⟩ (fun q hq => by
      have := h3.2.1.2.1
      exact ⟨⟨rfl, rfl, rfl⟩, eM _ (by omega), eM _ (by omega), eM _ (by omega)⟩) (fun _ _ => rfl) (fun c hc => by
      have := h3.2.1.2.2.1
      exact ⟨⟨rfl, rfl, rfl⟩, eM _ (by omega), eM _ (by omega), eM _ (by omega)⟩) (fun g _ => ⟨⟨rfl, rfl⟩, eM _ (by omega), eM _ (by omega)⟩)
  · unfold GrS
    rw [(ef 67 (by decide)).trans k15, (ef 68 (by decide)).trans k16, (ef 69 (by decide)).trans k17, (ef 70 (by decide)).trans k18, (ef 53 (by decide)).trans k2]
    refine gr_x h4 (fun h hh => ⟨by rw [eM _ (by omega)]; exact (h4.1 h hh).1, by rw [eM _ (by omega)]; exact (h4.1 h hh).2.1, rfl, eM _ (by omega)⟩) (fun g hg => ?_) (fun q _ => ⟨rfl, eM _ (by omega), eM _ (by omega)⟩) (fun _ _ _ => rfl) (fun k k1 k2 k3 => eM k (by omega)) ⟨eM 3 (by omega), fun g _ _ => eM _ (by omega)⟩
    rw [pI_1]
    by_cases z : g = x.toNatClampNeg
    · rw [if_pos ⟨rfl, z⟩]
      unfold mN
      rw [w6, if_pos (by omega)]
    · rw [if_neg (fun y => z y.2), eM _ (by omega), k19]
      exact h4.2.1 g hg
  · rw [w6, if_neg (by omega)]; exact h5
/-- price and sweet of a grocer in work -/
def GcE (x : Int32) (s t : Sg) : Prop := s.1 65 x.toNatClampNeg = t.1 1 (1920 + (93 + 3 * x.toNatClampNeg)) ∧ s.1 66 x.toNatClampNeg = t.1 1 (1920 + (94 + 3 * x.toNatClampNeg))
theorem gce_st {n : Nat} {x : Int32} {sC sM s t : Sg} (w : StT n sC sM s t) (h : GcE x sC sM) : GcE x s t := by
  obtain ⟨⟨⟨y1, y2, y3, y4, y5, y6, y7, y8, y9, y10, y11, y12⟩, y13, y14, y15, y16, y17, y18, y19, y20⟩, y21, y22, y23, y24⟩ := kp_of w
  unfold GcE
  rw [y13, y14, y21]
  exact h
theorem wk_price {n : Nat} {x : Int32} {lo hi : Int} {sC sM s t : Sg} (h : WkT n 3 x sC sM) (w : NuT n lo hi (1920 + (93 + 3 * x.toNatClampNeg)) sC sM s t) : WkT n 3 x (pI (pI s 65 x.toNatClampNeg (s.1 7 7)) 66 x.toNatClampNeg 0) t ∧ GcE x (pI (pI s 65 x.toNatClampNeg (s.1 7 7)) 66 x.toNatClampNeg 0) t := by
  have h6 := h.2.2.2.2.2
  have cl := cl_nat x
  have x4 : x.toInt < 4 := h6.2.2 (by decide)
  have h5 : sM.1 1 1923 = x := h.2.2.2.2.1
  have sw := h.2.2.2.1.2.2.2.2.2
  obtain ⟨w1, w2, w3, w4, w5, w6⟩ := w
  obtain ⟨⟨k1, k2, k3, k4, k5, k6, k7, k8, k9, k10, k11, k12⟩, k13, k14, k15, k16, k17, k18, k19, k20⟩ := kc_of w2
  have ef : ∀ c, ¬ c = 65 → ¬ c = 66 → (pI (pI s 65 x.toNatClampNeg (s.1 7 7)) 66 x.toNatClampNeg 0).1 c = s.1 c := fun c z1 z2 => funext fun k => by
    rw [pI_1, if_neg (fun z => z2 z.1), pI_1, if_neg (fun z => z1 z.1)]
  have ek : ∀ k, ¬ k = x.toNatClampNeg → (pI (pI s 65 x.toNatClampNeg (s.1 7 7)) 66 x.toNatClampNeg 0).1 65 k = s.1 65 k ∧ (pI (pI s 65 x.toNatClampNeg (s.1 7 7)) 66 x.toNatClampNeg 0).1 66 k = s.1 66 k := fun k z => by
    constructor
    · rw [pI_1, if_neg (fun y => z y.2), pI_1, if_neg (fun y => z y.2)]
    · rw [pI_1, if_neg (fun y => z y.2), pI_1, if_neg (fun y => z y.2)]
  refine ⟨wk_x (by decide) h ?_ ⟨(ef 52 (by decide) (by decide)).trans k1, k3, (ef 56 (by decide) (by decide)).trans k4, (ef 57 (by decide) (by decide)).trans k5, (ef 61 (by decide) (by decide)).trans k9, (ef 8 (by decide) (by decide)).trans k20⟩ ⟨(ef 53 (by decide) (by decide)).trans k2, (ef 67 (by decide) (by decide)).trans k15, (ef 68 (by decide) (by decide)).trans k16, (ef 69 (by decide) (by decide)).trans k17, (ef 70 (by decide) (by decide)).trans k18, (ef 71 (by decide) (by decide)).trans k19⟩ (fun k _ => ⟨by rw [ef 58 (by decide) (by decide), k6], by rw [ef 59 (by decide) (by decide), k7], by rw [ef 60 (by decide) (by decide), k8]⟩) (fun k _ => ⟨by rw [ef 62 (by decide) (by decide), k10], by rw [ef 63 (by decide) (by decide), k11], by rw [ef 64 (by decide) (by decide), k12]⟩) (fun k hk => ?_) ⟨funext fun k => fr_e2 w3 2 k 2 rfl rfl, fr_e w3 0 20 40 rfl rfl, fr_e w3 0 18 38 rfl rfl⟩ (fun k hk => ?_), ?_, ?_⟩
  · exact tk_f (L1 := LT65) (L2 := 0) w1 (fr_i (fr_i fr_r 65 rfl rfl) 66 rfl rfl) fr_r rfl rfl
  · have e := ek k (fun z => hk ⟨rfl, z⟩)
    rw [e.1, e.2, k13, k14]
    exact ⟨rfl, rfl⟩
  · rw [w6, if_neg (fun z => hk (Or.inr (Or.inr ⟨rfl, by omega⟩)))]
  · rw [q_nc rfl, q_eq, w6, if_pos rfl]
  · rw [q_eq, w6, if_neg (by omega)]
    have z := sw x.toNatClampNeg (by omega) (by
      show (sM.1 1 1923).toInt ≤ _
      rw [h5]
      omega)
    exact z.symm
/-- a grocer is counted -/
theorem gc_done {n : Nat} {x : Int32} {sC sM s t : Sg} (h : WkT n 3 x sC sM) (tk : TkRel n s t) (kc : ∀ c, c ∈ KCL → s.1 c = sC.1 c) (k55 : s.2 55 = sC.2 55) (k66 : ∀ k, ¬ k = x.toNatClampNeg → s.1 66 k = sC.1 66 k) (m0 : t.2 2 = sM.2 2 ∧ t.1 0 20 = sM.1 0 20 ∧ t.1 0 18 = sM.1 0 18) (m1 : ∀ k, ¬ k = 94 + 3 * x.toNatClampNeg → t.1 1 (1920 + k) = sM.1 1 (1920 + k)) (hE : GcE x s t) : SR n (pI s 52 16 ((s.1 52 16) + 1)) (pI t 1 1923 ((t.1 1 1923) + 1)) := by
  obtain ⟨h1, h2, h3, h4, h5, h6⟩ := h
  have cl := cl_nat x
  have x4 : x.toInt < 4 := h6.2.2 (by decide)
  have e1 : (1 : Int32).toInt = 1 := rfl
  have cf : ∀ c, ¬ c = 52 → (pI s 52 16 ((s.1 52 16) + 1)).1 c = s.1 c := fun c z1 => funext fun k => by
    rw [pI_1, if_neg (fun y => z1 y.1)]
  have e2 : (pI s 52 16 ((s.1 52 16) + 1)).2 = s.2 := rfl
  have c52 : ∀ k, ¬ k = 16 → (pI s 52 16 ((s.1 52 16) + 1)).1 52 k = sC.1 52 k := fun k hk => by
    rw [pI_1, if_neg (fun y => hk y.2), kc 52 (by decide)]
  have c16 : (pI s 52 16 ((s.1 52 16) + 1)).1 52 16 = sC.1 52 16 + 1 := by
    rw [q_eq, kc 52 (by decide)]
  have h5' : sM.1 1 1923 = x := h5
  have m21 : t.1 1 1923 = x := by rw [show (1923 : Nat) = 1920 + 3 from rfl, m1 3 (by omega)]; exact h5
  have eM : ∀ k, ¬ k = 3 → ¬ k = 94 + 3 * x.toNatClampNeg → mN (pI t 1 1923 ((t.1 1 1923) + 1)) k = mN sM k := fun k z1 z2 => by
    unfold mN
    rw [pI_1, if_neg (fun y => z1 (by have := y.2; omega)), m1 k z2]
  have mM1 : mN (pI t 1 1923 ((t.1 1 1923) + 1)) 3 = x + 1 := by
    show (pI t 1 1923 ((t.1 1 1923) + 1)).1 1 1923 = _
    rw [q_eq, m21]
  have m94 : mN (pI t 1 1923 ((t.1 1 1923) + 1)) (94 + 3 * x.toNatClampNeg) = s.1 66 x.toNatClampNeg := by
    unfold mN
    rw [pI_1, if_neg (fun y => by have := y.2; omega)]
    exact hE.2.symm
  have m93 : mN (pI t 1 1923 ((t.1 1 1923) + 1)) (93 + 3 * x.toNatClampNeg) = s.1 65 x.toNatClampNeg := by
    unfold mN
    rw [pI_1, if_neg (fun y => by have := y.2; omega)]
    exact hE.1.symm
  have ax : (x + 1).toInt = x.toInt + 1 := i_addx x 1 (show -2147483648 ≤ x.toInt + 1 ∧ x.toInt + 1 ≤ 2147483647 from by omega)
  have tk' : TkRel n (pI s 52 16 ((s.1 52 16) + 1)) (pI t 1 1923 ((t.1 1 1923) + 1)) := tk_f (L1 := 2 ^ 206) (L2 := 2 ^ 1) tk (fr_x 206 rfl) (fr_x 1 rfl) (m_and rfl) (m_and rfl)
  refine ⟨⟨tk', ?_, ?_⟩, ?_, ?_, ?_⟩
  · rw [q_nc rfl, m0.2.2]; exact h1.2.1
  · unfold ToldS
    rw [cf 8 (by decide), kc 8 (by decide), q_nc rfl, m0.2.1]
    exact h1.2.2
  · obtain ⟨⟨a1, a2, a3, a4⟩, ⟨d0, d1, d2, d3⟩, ⟨c5, c6, c7⟩, cq, cA, cc, cg⟩ := h3
    have g1 : mN sM 3 = x := h5
    rw [g1] at cg a4 d3
    unfold PlanS PlanA
    rw [cf 58 (by decide), kc 58 (by decide), cf 59 (by decide), kc 59 (by decide), cf 60 (by decide), kc 60 (by decide), cf 61 (by decide), kc 61 (by decide), cf 62 (by decide), kc 62 (by decide), cf 63 (by decide), kc 63 (by decide), cf 64 (by decide), kc 64 (by decide), cf 65 (by decide), cf 66 (by decide), c52 13 (by decide), c52 14 (by decide), c52 15 (by decide), c52 17 (by decide), c52 18 (by decide), c52 19 (by decide), c16, mM1, eM 0 (by decide) (by omega), eM 1 (by decide) (by omega), eM 2 (by decide) (by omega), eM 9 (by decide) (by omega), eM 13 (by decide) (by omega), eM 14 (by decide) (by omega)]
    refine ⟨⟨a1, a2, a3, by rw [a4]⟩, ⟨d0, d1, d2, by omega⟩, ⟨c5, c6, c7⟩, fun q hq => ?_, cA, fun c hc => ?_, fun g hg => ?_⟩
    · have z := cq q hq
      rw [eM _ (by omega) (by omega), eM _ (by omega) (by omega), eM _ (by omega) (by omega)]
      exact z
    · have z := cc c hc
      rw [eM _ (by omega) (by omega), eM _ (by omega) (by omega), eM _ (by omega) (by omega)]
      exact z
    · by_cases z : g = x.toNatClampNeg
      · rw [z, m93, m94]
        exact ⟨rfl, rfl⟩
      · rw [eM _ (by omega) (by omega), eM _ (by omega) (by omega), k66 g z, kc 65 (by decide)]
        exact cg g (by omega)
  · obtain ⟨a1, a2, a3, a4, ⟨b4, b5, b6, b7, b8, b10, b11, b12⟩, a6⟩ := h4
    unfold GrS
    rw [cf 67 (by decide), kc 67 (by decide), cf 68 (by decide), kc 68 (by decide), cf 69 (by decide), kc 69 (by decide), cf 70 (by decide), kc 70 (by decide), cf 71 (by decide), kc 71 (by decide), cf 53 (by decide), kc 53 (by decide)]
    refine ⟨fun h hh => ?_, fun g hg => ?_, fun q hq => ?_, a4, ?_, fun g g1 g2 => ?_⟩
    · rw [eM _ (by omega) (by omega), eM _ (by omega) (by omega), eM _ (by omega) (by omega)]
      exact a1 h hh
    · rw [eM _ (by omega) (by omega)]
      exact a2 g hg
    · rw [eM _ (by omega) (by omega), eM _ (by omega) (by omega)]
      exact a3 q hq
    · rw [eM 4 (by decide) (by omega), eM 5 (by decide) (by omega), eM 6 (by decide) (by omega), eM 7 (by decide) (by omega), eM 8 (by decide) (by omega), eM 10 (by decide) (by omega), eM 11 (by decide) (by omega), eM 12 (by decide) (by omega)]
      exact ⟨b4, b5, b6, b7, b8, b10, b11, b12⟩
    · rw [mM1] at g2
      rw [eM _ (by omega) (by omega)]
      refine a6 g g1 ?_
      show (sM.1 1 1923).toInt ≤ _
      rw [h5']
      omega
  · have hb : ∀ x, x < 4 → cnN sM x ≤ 8 ∧ (2 ≤ x → cnN sM x ≤ 4) := by
      have b := h3.2.1
      have d0 : mN sM 0 = sM.1 1 1920 := rfl
      have d1 : mN sM 1 = sM.1 1 1921 := rfl
      have d2 : mN sM 2 = sM.1 1 1922 := rfl
      have d3 : mN sM 3 = sM.1 1 1923 := rfl
      rw [d0, d1, d2, d3] at b
      refine u4 ?_ ?_ ?_ ?_
      · show (sM.1 1 1920).toInt.toNat ≤ 8 ∧ (2 ≤ 0 → (sM.1 1 1920).toInt.toNat ≤ 4)
        omega
      · show (sM.1 1 1921).toInt.toNat ≤ 8 ∧ (2 ≤ 1 → (sM.1 1 1921).toInt.toNat ≤ 4)
        omega
      · show (sM.1 1 1922).toInt.toNat ≤ 8 ∧ (2 ≤ 2 → (sM.1 1 1922).toInt.toNat ≤ 4)
        omega
      · show (sM.1 1 1923).toInt.toNat ≤ 8 ∧ (2 ≤ 3 → (sM.1 1 1923).toInt.toNat ≤ 4)
        omega
    have c1 : cnN (pI t 1 1923 ((t.1 1 1923) + 1)) 3 = cnN sM 3 + 1 := by
      show ((pI t 1 1923 ((t.1 1 1923) + 1)).1 1 1923).toInt.toNat = (sM.1 1 1923).toInt.toNat + 1
      rw [q_eq, m21, h5']
      omega
    have c2 : ∀ z, ¬ z = 3 → cnN (pI t 1 1923 ((t.1 1 1923) + 1)) z = cnN sM z := fun z hz => by
      unfold cnN
      by_cases y : z < 4
      · rw [if_pos y, if_pos y, pI_1, if_neg (fun v => hz (by have := v.2; omega)), m1 z (by omega)]
      · rw [if_neg y, if_neg y]
    have d := nm_done (q := 3) (by decide) (mM := fun _ => 0) h2 hb ⟨c1, c2⟩
    have nn : nmN (pI t 1 1923 ((t.1 1 1923) + 1)) = nmN sM := by
      unfold nmN
      have : (pI t 1 1923 ((t.1 1 1923) + 1)).2 2 = sM.2 2 := m0.1
      rw [this]
    unfold NmS
    rw [nn, cf 56 (by decide), kc 56 (by decide), cf 57 (by decide), kc 57 (by decide), c52 12 (by decide), e2, k55]
    exact d
theorem grocer_r {n : Nat} {sC sM : Sg} (h : SR n sC sM) : RQ (f_X6_takeGrocer sC) (bd (f_X12_aGrocer sM) (fun r s => f_X12_streetPart_b102 r s)) (Og (PaT n sC sM)) := by
  obtain ⟨h1, h2, h3, h4⟩ := h
  have hcnt : sC.1 52 16 = sM.1 1 1923 := h2.1.2.2.2
  have q0 := tk_pos h1.1
  unfold f_X6_takeGrocer f_X12_aGrocer
  rw [hcnt]
  refine rm_n (fun x1 ex1 => rm_b (rq_b2 (new_r (q := 3) h1 h2 h3 h4 (by decide) 112 4 3 20 rfl rfl rfl rfl) (fun r s r' t g => og_k sg_K0 g (fun g => ?_))))
  have wk := wk_of (by decide) g
  have g5 := g.2.2.2.2.1
  have hx := wk.2.2.2.2.2
  have wk : WkT n 3 (sM.1 1 1923) s t := wk
  have hx : 0 ≤ (sM.1 1 1923).toInt ∧ (sM.1 1 1923).toInt < 4 := ⟨hx.1, hx.2.2 (by decide)⟩
  generalize sM.1 1 1923 = x at wk hx ex1 ⊢
  have cl := cl_nat x
  have e3 : (3 : Int32).toInt = 3 := rfl
  have e2 : (2 : Int32).toInt = 2 := rfl
  have e1 : (1 : Int32).toInt = 1 := rfl
  have e2012 : (2012 : Int32).toInt = 2012 := rfl
  have mx : (3 * x).toInt = 3 * x.toInt := i_mulx 3 x (show -2147483648 ≤ 3 * x.toInt ∧ 3 * x.toInt ≤ 2147483647 from by omega)
  have ax : x1.toInt = 2012 + 3 * x.toInt := by
    rw [ex1]
    have := i_addx 2012 (3 * x) (show -2147483648 ≤ 2012 + (3 * x).toInt ∧ 2012 + (3 * x).toInt ≤ 2147483647 from by omega)
    omega
  have ax1 : (x1 + 1).toInt = x1.toInt + 1 := i_addx x1 1 (show -2147483648 ≤ x1.toInt + 1 ∧ x1.toInt + 1 ≤ 2147483647 from by omega)
  have ax2 : (x1 + 2).toInt = x1.toInt + 2 := i_addx x1 2 (show -2147483648 ≤ x1.toInt + 2 ∧ x1.toInt + 2 ≤ 2147483647 from by omega)
  have clx := cl_nat x1
  have clx1 := cl_nat (x1 + 1)
  have clx2 := cl_nat (x1 + 2)
  have dx0 : x1.toNatClampNeg = 1920 + (92 + 3 * x.toNatClampNeg) := by omega
  have dx1 : (x1 + 1).toNatClampNeg = 1920 + (93 + 3 * x.toNatClampNeg) := by omega
  have dx2 : (x1 + 2).toNatClampNeg = 1920 + (94 + 3 * x.toNatClampNeg) := by omega
  refine rm_b (rq_b2 (pass_w wk.1.1 wk.1.2.1 113 14 13 (by decide) rfl rfl) (fun u s4 u' t5 w => og_k sg_K0 w (fun w => ?_)))
  have wk4 := wk_st w wk
  have q1 := tk_pos wk.1.1
  have q2 := w.2.2.2
  refine rm_b (rq_b2 (num_r wk4.1.1 wk4.1.2.1 0 999 x1 _ dx0) (fun u s6 u' t7 w2 => og_k sg_K0 w2 (fun w2 => ?_)))
  have q3 := tk_pos wk4.1.1
  have q4 := w2.2.2.2.1
  refine rq_cC (fun _ => rq_nC (fun s8 e8 => ?_))
  have wk8 := wk_stock wk4 w2
  rw [← e8] at wk8
  have p8 : (sC.1 7 2).toInt ≤ (s8.1 7 4).toInt := by
    rw [e8, q_nc rfl]
    omega
  clear e8 w2 w
  refine rm_b (rq_b2 (pass_w wk8.1.1 wk8.1.2.1 114 15 14 (by decide) rfl rfl) (fun u s10 u' t9 w3 => og_k sg_K0 w3 (fun w3 => ?_)))
  have wk10 := wk_st w3 wk8
  have q5 := tk_pos wk8.1.1
  have q6 := w3.2.2.2
  refine rm_b (rq_b2 (num_r wk10.1.1 wk10.1.2.1 1 99 (x1 + 1) _ dx1) (fun u s12 u' t11 w4 => og_k sg_K0 w4 (fun w4 => ?_)))
  have q7 := tk_pos wk10.1.1
  have q8 := w4.2.2.2.1
  refine rq_nC (fun s13 e13 => rq_nC (fun s14 e14 => ?_))
  obtain ⟨wk14, E14⟩ := wk_price wk10 w4
  rw [← e13, ← e14] at wk14 E14
  have p14 : (sC.1 7 2).toInt ≤ (s14.1 7 4).toInt := by
    rw [e14, q_nc rfl, e13, q_nc rfl]
    omega
  unfold f_X12_isThere
  refine rm_b (rm_b (rq_bM (word_r wk14.1.1) (fun r1 s2 g => ?_)))
  obtain ⟨es, g, -⟩ := g
  subst es
  have e := kws_eq g (i := 15) (by decide) (c := 115) (p := 16) rfl rfl
  refine rq_iC (fun c => rm_i (fun d => ?_) (fun d => absurd (e.mp c) d)) (fun c => rm_i (fun d => absurd (e.mpr d) c) (fun d => ?_))
  · refine rm_b (rq_b2 (adv_s wk14.1.1) (fun _ s16 _ t13 w5 => ?_))
    have wk16 := wk_st w5 wk14
    have q9 := tk_pos wk14.1.1
    have q10 := w5.2.2.2
    have E16 := gce_st w5 E14
    refine rm_s (rm_i (fun z => absurd z i10) (fun _ => ?_))
    refine rm_b (rq_b2 (num_r wk16.1.1 wk16.1.2.1 0 16 (x1 + 2) _ dx2) (fun u s18 u' t15 w6 => og_k sg_K0 w6 (fun w6 => ?_)))
    have q11 := tk_pos wk16.1.1
    obtain ⟨z1, z2, z3, z4, z5, z6⟩ := w6
    refine rq_nC (fun s19 e19 => ?_)
    unfold f_X6_takeGrocer_b171 f_X12_aGrocer_b101
    refine rm_s (semi_r (gc_done (s := s19) (t := t15) wk16 ?_ (fun c hc => ?_) ?_ (fun k hk => ?_) ⟨funext fun k => fr_e2 z3 2 k 2 rfl rfl, fr_e z3 0 20 40 rfl rfl, fr_e z3 0 18 38 rfl rfl⟩ (fun k hk => ?_) ⟨?_, ?_⟩) ?_)
    · rw [e19]
      exact tk_f (L1 := 2 ^ 66) (L2 := 0) z1 (fr_x 66 rfl) fr_r (m_and rfl) rfl
    · have n66 : ¬ c = 66 := fun z => by rw [z] at hc; exact absurd hc (by decide)
      rw [← kcl_of (kc_of z2) c hc, e19]
      exact funext fun k => by rw [pI_1, if_neg (fun y => n66 y.1)]
    · rw [e19]
      exact (kc_of z2).1.2.2.1
    · rw [e19, pI_1, if_neg (fun y => hk y.2), (kc_of z2).2.2.1]
    · rw [z6, if_neg (by omega)]
    · rw [e19, q_nc rfl, (kc_of z2).2.1, z6, if_neg (by omega)]
      exact E16.1
    · rw [e19, q_eq, z6, if_pos rfl]
    · rw [q_nc rfl, e19, q_nc rfl]
      omega
  · refine rm_s (rm_i (fun _ => ?_) (fun z => absurd rfl z))
    unfold f_X6_takeGrocer_b171 f_X12_aGrocer_b101
    refine rm_s (semi_r (gc_done wk14 wk14.1.1 (fun _ _ => rfl) rfl (fun _ _ => rfl) ⟨rfl, rfl, rfl⟩ (fun _ _ => rfl) E14) ?_)
    rw [q_nc rfl]
    exact p14
/-! texts: what may be told but once -/
abbrev LT8W : Nat := 411376139330301510538742295639337626245683966408394965837152512
abbrev LT8C : Nat := 822752278660603021077484591278675252491367932816789931674304768
theorem sr_st {n : Nat} {sC sM s t : Sg} (w : StT n sC sM s t) (h : SR n sC sM) : SR n s t := by
  have kp := kp_of w
  exact ⟨kp_sb w h.1, kp_pl kp h.2.1, kp_gr kp h.2.2.1, kp_nm kp h.2.2.2⟩
theorem told_c {sC sM : Sg} (h : ToldS sC sM) : (sC.1 8 3 = 0 ∧ sC.1 8 4 = 0 ∧ sM.1 0 20 = 0) ∨ (sC.1 8 3 = 1 ∧ sC.1 8 4 = 0 ∧ sM.1 0 20 = 1) ∨ (sC.1 8 3 = 0 ∧ sC.1 8 4 = 1 ∧ sM.1 0 20 = 2) ∨ (sC.1 8 3 = 1 ∧ sC.1 8 4 = 1 ∧ sM.1 0 20 = 3) := by
  obtain ⟨h, a, b⟩ := h
  have e0 : (0 : Int32).toInt = 0 := rfl
  have e1 : (1 : Int32).toInt = 1 := rfl
  rcases a with a | a <;> rcases b with b | b <;> rw [a, b] at h
  · exact Or.inl ⟨a, b, Int32.toInt_inj.mp (by rw [h]; rfl)⟩
  · exact Or.inr (Or.inr (Or.inl ⟨a, b, Int32.toInt_inj.mp (by rw [h]; rfl)⟩))
  · exact Or.inr (Or.inl ⟨a, b, Int32.toInt_inj.mp (by rw [h]; rfl)⟩)
  · exact Or.inr (Or.inr (Or.inr ⟨a, b, Int32.toInt_inj.mp (by rw [h]; rfl)⟩))
/-- the relation, where what the plan tells of rain and of the gone has changed -/
theorem sr_x {n : Nat} {s t s' t' : Sg} (h : SR n s t) (tk : TkRel n s' t') (kc : ∀ c, c ∈ [53, 56, 57, 58, 59, 60, 61, 62, 63, 64, 65, 66, 67, 68, 69, 70, 71] → s'.1 c = s.1 c) (k52 : ∀ k, ¬ k = 18 → ¬ k = 19 → s'.1 52 k = s.1 52 k) (k55 : s'.2 55 = s.2 55) (m2 : t'.2 2 = t.2 2) (m18 : t'.1 0 18 = t.1 0 18) (mM : ∀ k, ¬ k = 13 → ¬ k = 14 → mN t' k = mN t k) (to : ToldS s' t') (ew : s'.1 52 18 = mN t' 13) (eg : s'.1 52 19 = mN t' 14) : SR n s' t' := by
  obtain ⟨h1, h2, h3, h4⟩ := h
  have c0 : cnN t' = cnN t := cn_e (fun k hk => mM k (by omega) (by omega))
  have n0 : nmN t' = nmN t := by unfold nmN; rw [m2]
  refine ⟨⟨tk, m18.trans h1.2.1, to⟩, ?_, ?_, ?_⟩
  · unfold PlanS
    rw [kc 58 (by decide), kc 59 (by decide), kc 60 (by decide), kc 61 (by decide), kc 62 (by decide), kc 63 (by decide), kc 64 (by decide), kc 65 (by decide), kc 66 (by decide)]
    exact plan_x h2 (fun k k1 k2 => k52 k (by omega) (by omega)) (fun k hk => mM k (by omega) (by omega)) ⟨by rw [k52 17 (by decide) (by decide), mM 9 (by decide) (by decide)]; exact h2.2.2.1.1, ew, eg⟩ (fun q _ => ⟨⟨rfl, rfl, rfl⟩, mM _ (by omega) (by omega), mM _ (by omega) (by omega), mM _ (by omega) (by omega)⟩) (fun _ _ => rfl) (fun c _ => ⟨⟨rfl, rfl, rfl⟩, mM _ (by omega) (by omega), mM _ (by omega) (by omega), mM _ (by omega) (by omega)⟩) (fun g _ => ⟨⟨rfl, rfl⟩, mM _ (by omega) (by omega), mM _ (by omega) (by omega)⟩)
  · unfold GrS
    rw [kc 67 (by decide), kc 68 (by decide), kc 69 (by decide), kc 70 (by decide), kc 71 (by decide), kc 53 (by decide)]
    exact gr_x h3 (fun h hh => ⟨by rw [mM _ (by omega) (by omega)]; exact (h3.1 h hh).1, by rw [mM _ (by omega) (by omega)]; exact (h3.1 h hh).2.1, rfl, mM _ (by omega) (by omega)⟩) (fun g hg => by rw [mM _ (by omega) (by omega)]; exact h3.2.1 g hg) (fun q _ => ⟨rfl, mM _ (by omega) (by omega), mM _ (by omega) (by omega)⟩) (fun _ _ _ => rfl) (fun k k1 k2 k3 => mM k (by omega) (by omega)) ⟨mM 3 (by decide) (by decide), fun g _ _ => mM _ (by omega) (by omega)⟩
  · unfold NmS
    rw [n0, c0, kc 56 (by decide), kc 57 (by decide), k52 12 (by decide) (by decide), k55]
    exact h4
theorem og_b {H G : Sg → Sg → Prop} {r : Int32} {s : Sg} {r' : Int32} {t : Sg} {A : Option (Int32 × Sg)} {K : Int32 → Sg → Option (Int32 × Sg)} (hK : K0 K) (g : Og H r s r' t) (no : H s t → False) : RQ (if r = 0 then some (0, s) else A) (K r' t) (Og G) := by
  rcases g with ⟨e, e', g⟩ | ⟨e, e', g⟩
  · exact absurd g no
  · subst e; subst e'
    rw [if_pos rfl, hK t]
    exact rq_s (Or.inr ⟨rfl, rfl, g⟩)
theorem washes_r {n : Nat} {sC sM : Sg} (h : SR n sC sM) : RQ (f_X6_takeWashes sC) (bd (f_X12_once 17 sM) (fun r s => f_X12_streetPart_b102 r s)) (Og (PaT n sC sM)) := by
  unfold f_X6_takeWashes f_X12_once
  have q0 := tk_pos h.1.1
  refine rm_b (rq_b2 (adv_s h.1.1) (fun _ s2 _ t2 w => ?_))
  have h2 := sr_st w h
  have q1 := w.2.2.2
  have q2 := tk_pos h2.1.1
  have hc : (sC.1 7 2).toInt ≤ (s2.1 7 4).toInt := q1
  clear w
  refine rm_b (rq_bM (word_r h2.1.1) (fun r3 t4 g => ?_))
  obtain ⟨es, g, -⟩ := g
  subst es
  have e := kws_eq g (i := 17) (by decide) (c := 117) (p := 17) rfl rfl
  have tc := told_c h2.1.2.2
  refine rq_iC (fun c => rm_i (fun d => ?_) (fun d => absurd (e.mp c) d)) (fun c => rm_i (fun d => absurd (e.mpr d) c) (fun d => ?_))
  · have ff : ∀ {H : Sg → Sg → Prop}, RQ (bd (f_X7_wrong 5 s2) (fun r s => ck (r = 0 ∨ r = 1) (some (r, s)))) (bd (bd (f_X12_fails 5 t4) (fun r t => ck (r = 0 ∨ r = 1) (some (r, t)))) (fun r s => f_X12_streetPart_b102 r s)) (Og H) := og_fk sg_K0 h2.1.1 h2.1.2.1 5 (by decide)
    refine rq_iC (fun c3 => rm_i (fun b => ?_) (fun b => ?_)) (fun c3 => rm_i (fun b => ff) (fun b => ?_))
    · exfalso
      rcases tc with z | z | z | z
      · rw [z.2.2] at b
        exact absurd b (by decide)
      · exact absurd (z.1.symm.trans c3) (by decide)
      · rw [z.2.2] at b
        exact absurd b (by decide)
      · exact absurd (z.1.symm.trans c3) (by decide)
    · unfold f_X6_takeWashes_b35 f_X7_pass
      refine rc_i (fun _ => ?_) (fun z => absurd c z)
      refine rm_n (fun t7 e7 => rc_b (rm_b ?_))
      have tk7 : TkRel n s2 t7 := by
        rw [e7]
        exact tk_f (L1 := 0) (L2 := 2 ^ 40) h2.1.1 fr_r (fr_x 40 rfl) rfl (m_and rfl)
      refine rq_b2 (adv_s tk7) (fun _ s5 _ t9 w => rc_s (rq_iC (fun z => absurd z i10) (fun _ => rm_i (fun _ => ?_) (fun z => absurd rfl z))))
      have z18 : t9.1 0 18 = 0 := by
        rw [(kp_of w).2.2.2.2, e7, q_ne rfl]
        exact h2.1.2.1
      have q3 := w.2.2.2
      have q4 := tk_pos w.1
      refine rm_b (rq_b2 (num_r w.1 z18 0 99 1933 1933 rfl) (fun u s6 u' t11 w3 => ?_))
      rcases w3 with ⟨z, z', w3⟩ | ⟨z, z', w3⟩ <;> subst z <;> subst z'
      · refine rq_iC (fun z => absurd z i10) (fun _ => rm_c (fun _ => rm_s (rq_nC (fun s7 e8 => ?_))))
        obtain ⟨z1, z2, z3, z4, z5, z6⟩ := w3
        have kp := kp_of w
        obtain ⟨⟨a1, a2, a3, a4, a5, a6, a7, a8, a9, a10, a11, a12⟩, a13, a14, a15, a16, a17, a18, a19, a20⟩ := kp.1
        obtain ⟨⟨b1, b2, b3, b4, b5, b6, b7, b8, b9, b10, b11, b12⟩, b13, b14, b15, b16, b17, b18, b19, b20⟩ := kc_of z2
        have ek : ∀ c, ¬ c = 8 → ¬ c = 52 → s7.1 c = s6.1 c := fun c y1 y2 => funext fun k => by
          rw [e8, pI_1, if_neg (fun y => y2 y.1), pI_1, if_neg (fun y => y1 y.1)]
        have tM : ∀ k, ¬ k = 13 → mN t11 k = mN t4 k := fun k hk => by
          show t11.1 1 (1920 + k) = t4.1 1 (1920 + k)
          rw [z6, if_neg (by omega), kp.2.1, e7, q_nc rfl]
        have fin : SR n s7 t11 := by
          refine sr_x h2 ?_ (fun c hc => ?_) (fun k k1 k2 => ?_) ?_ ?_ ?_ (fun k k1 k2 => tM k k1) ?_ ?_ ?_
          · rw [e8]
            exact tk_f (L1 := LT8W) (L2 := 0) z1 (fr_i (fr_i fr_r 8 rfl rfl) 208 rfl rfl) fr_r rfl rfl
          · have y1 : ¬ c = 8 := fun y => by rw [y] at hc; exact absurd hc (by decide)
            have y2 : ¬ c = 52 := fun y => by rw [y] at hc; exact absurd hc (by decide)
            rw [ek c y1 y2]
            simp only [List.mem_cons, List.not_mem_nil, or_false] at hc
            rcases hc with y | y | y | y | y | y | y | y | y | y | y | y | y | y | y | y | y <;> subst y
            · exact b2.trans a2
            · exact b4.trans a4
            · exact b5.trans a5
            · exact b6.trans a6
            · exact b7.trans a7
            · exact b8.trans a8
            · exact b9.trans a9
            · exact b10.trans a10
            · exact b11.trans a11
            · exact b12.trans a12
            · exact b13.trans a13
            · exact b14.trans a14
            · exact b15.trans a15
            · exact b16.trans a16
            · exact b17.trans a17
            · exact b18.trans a18
            · exact b19.trans a19
          · rw [e8, pI_1, if_neg (fun y => k1 y.2), q_nc rfl, b1, a1]
          · rw [e8]
            exact b3.trans a3
          · have y1 : t11.2 2 = t9.2 2 := funext fun k => fr_e2 z3 2 k 2 rfl rfl
            rw [y1, kp.2.2.1, e7]
            rfl
          · rw [fr_e z3 0 18 38 rfl rfl, z18]
            exact h2.1.2.1.symm
          · have y3 : s7.1 8 3 = 1 := by rw [e8, q_nc rfl, q_eq]
            have y4 : s7.1 8 4 = s2.1 8 4 := by rw [e8, q_nc rfl, q_ne rfl, b20, a20]
            have y20 : t11.1 0 20 = (t4.1 0 20) ||| ((1 : Int32) <<< ((17 - 17) &&& 31)) := by
              rw [fr_e z3 0 20 40 rfl rfl, kp.2.2.2.1, e7, q_eq]
            unfold ToldS
            rw [y3, y4, y20]
            rcases tc with z | z | z | z
            · rw [z.2.1, z.2.2]
              exact ⟨by decide, Or.inr rfl, Or.inl rfl⟩
            · exact absurd (z.1.symm.trans c3) (by decide)
            · rw [z.2.1, z.2.2]
              exact ⟨by decide, Or.inr rfl, Or.inr rfl⟩
            · exact absurd (z.1.symm.trans c3) (by decide)
          · show _ = t11.1 1 1933
            rw [e8, q_eq, q_nc rfl, z6, if_pos rfl]
          · rw [e8, q_ne rfl, q_nc rfl, tM 14 (by decide), b1, a1]
            exact h2.2.1.2.2.1.2.2
        refine semi_r fin ?_
        rw [e8, q_nc rfl, q_nc rfl]
        omega
      · refine rq_iC (fun _ => rm_c (fun _ => rm_s ?_)) (fun z => absurd rfl z)
        show RQ _ (f_X12_streetPart_b102 0 t11) _
        rw [sg_K0 t11]
        exact rq_s (Or.inr ⟨rfl, rfl, w3⟩)
    · exfalso
      rcases tc with z | z | z | z
      · exact c3 z.1
      · rw [z.2.2] at b
        exact b (by decide)
      · exact c3 z.1
      · rw [z.2.2] at b
        exact b (by decide)
  · unfold f_X6_takeWashes_b35 f_X7_pass
    refine rc_i (fun z => absurd z c) (fun _ => ?_)
    exact rq_b2 (og_f (H := fun _ _ => False) h2.1.1 h2.1.2.1 2 (by decide)) (fun r s r' t g => og_b sg_K0 g (fun z => z))
theorem semi2_r {n : Nat} {sC sM s0 : Sg} (h : SR n sC sM) (hp : (s0.1 7 2).toInt ≤ (sC.1 7 4).toInt) : RQ (bd (f_X7_pass 59 sC) (fun r s => if r = 0 then some (0, s) else some (1, s))) (f_X12_streetPart_b102 1 sM) (Og (PaT n s0 sM)) := by
  have w := semi_r (s0 := s0) h hp
  intro a s b t e1 e2
  refine w a s b t ?_ e2
  cases hq : f_X7_pass 59 sC with
  | none => rw [hq] at e1; cases e1
  | some q =>
    rw [hq] at e1
    obtain ⟨r, s3⟩ := q
    have e1 : (if r = 0 then some ((0 : Int32), s3) else some (1, s3)) = some (a, s) := e1
    show ck (r = 0 ∨ r = 1) (some (r, s3)) = some (a, s)
    have hr : r = 0 ∨ r = 1 := by
      have hpp := pass_s h.1.1 h.1.2.1 59 (Or.inl rfl)
      cases hw : f_X12_wantSign 59 sM with
      | none =>
        unfold f_X12_streetPart_b102 at e2
        rw [if_neg (show ¬ (1 : Int32) = 0 by decide), hw] at e2
        cases e2
      | some y =>
        rcases hpp r s3 y.1 y.2 hq hw with z | z
        · exact Or.inr z.1
        · exact Or.inl z.1
    rw [← e1]
    unfold ck
    rw [if_pos hr]
    rcases hr with z | z <;> subst z
    · rw [if_pos rfl]
    · rw [if_neg i10]
theorem counts_r {n : Nat} {sC sM : Sg} (h : SR n sC sM) : RQ (f_X6_takeCounts sC) (bd (f_X12_once 18 sM) (fun r s => f_X12_streetPart_b102 r s)) (Og (PaT n sC sM)) := by
  unfold f_X6_takeCounts f_X12_once
  have q0 := tk_pos h.1.1
  refine rm_b (rq_b2 (adv_s h.1.1) (fun _ s2 _ t2 w => ?_))
  have h2 := sr_st w h
  have q1 := w.2.2.2
  have q2 := tk_pos h2.1.1
  have hc : (sC.1 7 2).toInt ≤ (s2.1 7 4).toInt := q1
  clear w
  refine rm_b (rq_bM (word_r h2.1.1) (fun r3 t4 g => ?_))
  obtain ⟨es, g, -⟩ := g
  subst es
  have e := kws_eq g (i := 18) (by decide) (c := 118) (p := 18) rfl rfl
  have tc := told_c h2.1.2.2
  have tk1 : TkRel n (pI (pI s2 8 4 1) 52 19 1) t4 := tk_f (L1 := LT8C) (L2 := 0) h2.1.1 (fr_i (fr_i fr_r 8 rfl rfl) 209 rfl rfl) fr_r rfl rfl
  have kk : (pI (pI s2 8 4 1) 52 19 1).1 7 3 = s2.1 7 3 := by rw [q_nc rfl, q_nc rfl]
  refine rq_iC (fun c => rm_i (fun d => ?_) (fun d => absurd (e.mp c) d)) (fun c => rm_i (fun d => absurd (e.mpr d) c) (fun d => ?_))
  · have ff : ∀ {H : Sg → Sg → Prop}, RQ (bd (f_X7_wrong 5 s2) (fun r s => ck (r = 0 ∨ r = 1) (some (r, s)))) (bd (bd (f_X12_fails 5 t4) (fun r t => ck (r = 0 ∨ r = 1) (some (r, t)))) (fun r s => f_X12_streetPart_b102 r s)) (Og H) := og_fk sg_K0 h2.1.1 h2.1.2.1 5 (by decide)
    refine rq_iC (fun c3 => rm_i (fun b => ?_) (fun b => ?_)) (fun c3 => rm_i (fun b => ff) (fun b => ?_))
    · exfalso
      rcases tc with z | z | z | z
      · rw [z.2.2] at b
        exact absurd b (by decide)
      · rw [z.2.2] at b
        exact absurd b (by decide)
      · exact absurd (z.2.1.symm.trans c3) (by decide)
      · exact absurd (z.2.1.symm.trans c3) (by decide)
    · unfold f_X6_takeCounts_b35
      generalize hs2 : pI (pI s2 8 4 1) 52 19 1 = s3 at tk1 kk ⊢
      unfold f_X7_pass
      refine rc_i (fun _ => ?_) (fun z => absurd (kk.trans c) z)
      refine rm_n (fun t7 e7 => rc_b (rm_b ?_))
      have tk7 : TkRel n s3 t7 := by
        rw [e7]
        exact tk_f (L1 := 0) (L2 := 2 ^ 40) tk1 fr_r (fr_x 40 rfl) rfl (m_and rfl)
      refine rq_b2 (adv_s tk7) (fun _ s5 _ t9 w => rc_s (rq_iC (fun z => absurd z i10) (fun _ => rm_i (fun z => absurd z (by decide)) (fun _ => rm_s ?_))))
      have q3 := w.2.2.2
      have kp := kp_of w
      obtain ⟨⟨a1, a2, a3, a4, a5, a6, a7, a8, a9, a10, a11, a12⟩, a13, a14, a15, a16, a17, a18, a19, a20⟩ := kp.1
      have ek : ∀ c, ¬ c = 8 → ¬ c = 52 → s3.1 c = s2.1 c := fun c y1 y2 => funext fun k => by
        rw [← hs2, pI_1, if_neg (fun y => y2 y.1), pI_1, if_neg (fun y => y1 y.1)]
      have p7 : s3.1 7 2 = s2.1 7 2 := by rw [ek 7 (by decide) (by decide)]
      have tM : ∀ k, ¬ k = 14 → mN (pI t9 1 1934 1) k = mN t4 k := fun k hk => by
        show (pI t9 1 1934 1).1 1 (1920 + k) = t4.1 1 (1920 + k)
        rw [pI_1, if_neg (fun y => hk (by have := y.2; omega)), kp.2.1, e7, q_nc rfl]
      have fin : SR n s5 (pI t9 1 1934 1) := by
        refine sr_x h2 ?_ (fun c hc => ?_) (fun k k1 k2 => ?_) ?_ ?_ ?_ (fun k k1 k2 => tM k k2) ?_ ?_ ?_
        · exact tk_f (L1 := 0) (L2 := 2 ^ 1) w.1 fr_r (fr_x 1 rfl) rfl (m_and rfl)
        · have y1 : ¬ c = 8 := fun y => by rw [y] at hc; exact absurd hc (by decide)
          have y2 : ¬ c = 52 := fun y => by rw [y] at hc; exact absurd hc (by decide)
          rw [← ek c y1 y2]
          simp only [List.mem_cons, List.not_mem_nil, or_false] at hc
          rcases hc with y | y | y | y | y | y | y | y | y | y | y | y | y | y | y | y | y <;> subst y <;> assumption
        · rw [a1, ← hs2, pI_1, if_neg (fun y => k2 y.2), q_nc rfl]
        · rw [a3, ← hs2]
          rfl
        · show t9.2 2 = _
          rw [kp.2.2.1, e7]
          rfl
        · rw [q_nc rfl, kp.2.2.2.2, e7, q_ne rfl]
        · have y3 : s5.1 8 3 = s2.1 8 3 := by rw [a20, ← hs2, q_nc rfl, q_ne rfl]
          have y4 : s5.1 8 4 = 1 := by rw [a20, ← hs2, q_nc rfl, q_eq]
          have y20 : (pI t9 1 1934 1).1 0 20 = (t4.1 0 20) ||| ((1 : Int32) <<< ((18 - 17) &&& 31)) := by
            rw [q_nc rfl, kp.2.2.2.1, e7, q_eq]
          unfold ToldS
          rw [y3, y4, y20]
          rcases tc with z | z | z | z
          · rw [z.1, z.2.2]
            exact ⟨by decide, Or.inl rfl, Or.inr rfl⟩
          · rw [z.1, z.2.2]
            exact ⟨by decide, Or.inr rfl, Or.inr rfl⟩
          · exact absurd (z.2.1.symm.trans c3) (by decide)
          · exact absurd (z.2.1.symm.trans c3) (by decide)
        · rw [a1, ← hs2, q_ne rfl, q_nc rfl, tM 13 (by decide)]
          exact h2.2.1.2.2.1.2.1
        · show _ = (pI t9 1 1934 1).1 1 1934
          rw [q_eq, a1, ← hs2, q_eq]
      refine semi2_r fin ?_
      rw [p7] at q3
      omega
    · exfalso
      rcases tc with z | z | z | z
      · exact c3 z.2.1
      · exact c3 z.2.1
      · rw [z.2.2] at b
        exact b (by decide)
      · rw [z.2.2] at b
        exact b (by decide)
  · unfold f_X6_takeCounts_b35
    generalize pI (pI s2 8 4 1) 52 19 1 = s3 at tk1 kk ⊢
    unfold f_X7_pass
    refine rc_i (fun z => absurd (kk.symm.trans z) c) (fun _ => ?_)
    exact rq_b2 (og_f (H := fun _ _ => False) tk1 h2.1.2.1 2 (by decide)) (fun r s r' t g => og_b sg_K0 g (fun z => z))
/-! texts: a part of a street, the parts one behind another -/
theorem bd_cl {α β : Type} {o : Option (α × Sg)} {k : α → Sg → Option (β × Sg)} {r : β} {s : Sg} (h : bd o k = some (r, s)) : ∃ r0 s0, o = some (r0, s0) ∧ k r0 s0 = some (r, s) := by
  cases o with
  | none => cases h
  | some q => exact ⟨q.1, q.2, rfl, h⟩
/-- the class's part at a token, by its kind -/
noncomputable def prtC (s : Sg) : Option (Int32 × Sg) := if s.1 7 3 = 100 then f_X6_takeHouse s else if s.1 7 3 = 103 then f_X6_takeCounts s else if s.1 7 3 = 104 then f_X6_takeQuarrel s else if s.1 7 3 = 108 then f_X6_takeCat s else if s.1 7 3 = 112 then f_X6_takeGrocer s else if s.1 7 3 = 116 then f_X6_takeWashes s else f_X7_wrong 2 s
theorem tt_k (m : Nat) (v1 v2 : Int32) (s : Sg) : f_X6_takeText_b21 (m + 1) v1 v2 s = if 900 < v2 then ck (v1 = 0 ∨ v1 = 1) (some (v1, s)) else if v1 = 0 then ck (v1 = 0 ∨ v1 = 1) (some (v1, s)) else if s.1 7 3 = 0 then ck (v1 = 0 ∨ v1 = 1) (some (v1, s)) else bd (prtC s) (fun r s => f_X6_takeText_b21 m r (v2 + 1) s) := by
  conv => lhs; unfold f_X6_takeText_b21
  by_cases h1 : 900 < v2
  · rw [if_pos h1, if_pos h1]
  rw [if_neg h1, if_neg h1]
  by_cases h2 : v1 = 0
  · rw [if_pos h2, if_pos h2]
  rw [if_neg h2, if_neg h2]
  by_cases h3 : s.1 7 3 = 0
  · rw [if_pos h3, if_pos h3]
  rw [if_neg h3, if_neg h3]
  unfold prtC
  have d : ∀ {a b : Int32}, s.1 7 3 = a → ¬ a = b → ¬ s.1 7 3 = b := fun e n z => n (e.symm.trans z)
  by_cases c0 : s.1 7 3 = 100
  · rw [if_pos c0, if_pos c0]
  rw [if_neg c0, if_neg c0]
  by_cases c1 : s.1 7 3 = 101
  · rw [if_pos c1, if_neg (d c1 (by decide)), if_neg (d c1 (by decide)), if_neg (d c1 (by decide)), if_neg (d c1 (by decide)), if_neg (d c1 (by decide))]
  rw [if_neg c1]
  by_cases c2 : s.1 7 3 = 102
  · rw [if_pos c2, if_neg (d c2 (by decide)), if_neg (d c2 (by decide)), if_neg (d c2 (by decide)), if_neg (d c2 (by decide)), if_neg (d c2 (by decide))]
  rw [if_neg c2]
  by_cases c3 : s.1 7 3 = 103
  · rw [if_pos c3, if_pos c3]
  rw [if_neg c3, if_neg c3]
  by_cases c4 : s.1 7 3 = 104
  · rw [if_pos c4, if_pos c4]
  rw [if_neg c4, if_neg c4]
  by_cases c5 : s.1 7 3 = 105
  · rw [if_pos c5, if_neg (d c5 (by decide)), if_neg (d c5 (by decide)), if_neg (d c5 (by decide))]
  rw [if_neg c5]
  by_cases c6 : s.1 7 3 = 106
  · rw [if_pos c6, if_neg (d c6 (by decide)), if_neg (d c6 (by decide)), if_neg (d c6 (by decide))]
  rw [if_neg c6]
  by_cases c7 : s.1 7 3 = 107
  · rw [if_pos c7, if_neg (d c7 (by decide)), if_neg (d c7 (by decide)), if_neg (d c7 (by decide))]
  rw [if_neg c7]
  by_cases c8 : s.1 7 3 = 108
  · rw [if_pos c8, if_pos c8]
  rw [if_neg c8, if_neg c8]
  by_cases c9 : s.1 7 3 = 109
  · rw [if_pos c9, if_neg (d c9 (by decide)), if_neg (d c9 (by decide))]
  rw [if_neg c9]
  by_cases c10 : s.1 7 3 = 110
  · rw [if_pos c10, if_neg (d c10 (by decide)), if_neg (d c10 (by decide))]
  rw [if_neg c10]
  by_cases c11 : s.1 7 3 = 111
  · rw [if_pos c11, if_neg (d c11 (by decide)), if_neg (d c11 (by decide))]
  rw [if_neg c11]
  by_cases c12 : s.1 7 3 = 112
  · rw [if_pos c12, if_pos c12]
  rw [if_neg c12, if_neg c12]
  by_cases c13 : s.1 7 3 = 113
  · rw [if_pos c13, if_neg (d c13 (by decide))]
  rw [if_neg c13]
  by_cases c14 : s.1 7 3 = 114
  · rw [if_pos c14, if_neg (d c14 (by decide))]
  rw [if_neg c14]
  by_cases c15 : s.1 7 3 = 115
  · rw [if_pos c15, if_neg (d c15 (by decide))]
  rw [if_neg c15]
  by_cases c16 : s.1 7 3 = 116
  · rw [if_pos c16, if_pos c16]
  rw [if_neg c16, if_neg c16]
theorem part_r {n : Nat} {sC sM : Sg} (h : SR n sC sM) : RQ (prtC sC) (f_X12_streetPart sM) (Og (PaT n sC sM)) := by
  unfold prtC f_X12_streetPart
  refine rq_bM (word_r h.1.1) (fun r1 s2 g => ?_)
  obtain ⟨es, g, -⟩ := g
  subst es
  have e0 := kws_eq g (i := 0) (by decide) (c := 100) (p := 0) rfl rfl
  have e3 := kws_eq g (i := 3) (by decide) (c := 103) (p := 5) rfl rfl
  have e4 := kws_eq g (i := 4) (by decide) (c := 104) (p := 1) rfl rfl
  have e8 := kws_eq g (i := 8) (by decide) (c := 108) (p := 2) rfl rfl
  have e12 := kws_eq g (i := 12) (by decide) (c := 112) (p := 3) rfl rfl
  have e16 := kws_eq g (i := 16) (by decide) (c := 116) (p := 4) rfl rfl
  have d : ∀ {a b : Int32}, r1 = a → ¬ a = b → ¬ r1 = b := fun e n z => n (e.symm.trans z)
  by_cases c0 : sC.1 7 3 = 100
  · have r := e0.mp c0
    rw [if_pos c0, if_pos r]
    exact house_r h
  rw [if_neg c0, if_neg (fun z => c0 (e0.mpr z))]
  by_cases c3 : sC.1 7 3 = 103
  · have r := e3.mp c3
    rw [if_pos c3, if_neg (d r (by decide)), if_neg (d r (by decide)), if_neg (d r (by decide)), if_neg (d r (by decide)), if_pos r]
    exact counts_r h
  rw [if_neg c3]
  by_cases c4 : sC.1 7 3 = 104
  · have r := e4.mp c4
    rw [if_pos c4, if_pos r]
    exact quarrel_r h
  rw [if_neg c4, if_neg (fun z => c4 (e4.mpr z))]
  by_cases c8 : sC.1 7 3 = 108
  · have r := e8.mp c8
    rw [if_pos c8, if_pos r]
    exact cat_r h
  rw [if_neg c8, if_neg (fun z => c8 (e8.mpr z))]
  by_cases c12 : sC.1 7 3 = 112
  · have r := e12.mp c12
    rw [if_pos c12, if_pos r]
    exact grocer_r h
  rw [if_neg c12, if_neg (fun z => c12 (e12.mpr z))]
  by_cases c16 : sC.1 7 3 = 116
  · have r := e16.mp c16
    rw [if_pos c16, if_pos r]
    exact washes_r h
  rw [if_neg c16, if_neg (fun z => c16 (e16.mpr z)), if_neg (fun z => c3 (e3.mpr z))]
  intro a s b t q1 q2
  obtain ⟨r0, t0, q3, q4⟩ := bd_cl q2
  have f := fails_r h.1.1 h.1.2.1 2 (by decide) a s r0 t0 q1 q3
  have q4 : ck (r0 = 0 ∨ r0 = 1) (some (r0, t0)) = some (b, t) := q4
  unfold ck at q4
  rw [if_pos (Or.inl f.2.1)] at q4
  cases q4
  exact Or.inr ⟨f.1, f.2.1, f.2.2⟩
/-- the parts one behind another -/
theorem parts_r {α : Type} {n : Nat} {R : α → Sg → Int32 → Sg → Prop} (KC : Int32 → Sg → Option (α × Sg)) {J : Sg → Prop} (hJ : ∀ t, J t → PQ (f_X12_streetPart t) (fun r t' => ¬ r = 0 → J t')) (hE : ∀ s t, SR n s t → J t → s.1 7 3 = 0 → RQ (KC 1 s) (f_X12_street_b50 t) R) (hF : ∀ s t, FtR s t → RQ (KC 0 s) (f_X12_street_b50 t) R) (m : Nat) : ∀ (m' : Nat) (v1 v2 v3 : Int32) (s t : Sg), ((v1 = 1 ∧ v3 = 1 ∧ SR n s t ∧ (0 ≤ v2.toInt ∧ v2.toInt ≤ (s.1 7 4).toInt) ∧ J t) ∨ (v1 = 0 ∧ v3 = 0 ∧ FtR s t ∧ 0 ≤ v2.toInt)) → RQ (bd (f_X6_takeText_b21 m v1 v2 s) KC) (f_X12_street_b31 m' v3 t) R := by
  induction m with
  | zero =>
    intro m' v1 v2 v3 s t _ a s' b t' e
    have e : (none : Option (α × Sg)) = some (a, s') := e
    cases e
  | succ m ih =>
    intro m' v1 v2 v3 s t h
    cases m' with
    | zero => exact rq_0
    | succ m' =>
      rw [tt_k]
      unfold f_X12_street_b31
      have ck1 : ∀ {v : Int32} {s : Sg}, (v = 0 ∨ v = 1) → bd (ck (v = 0 ∨ v = 1) (some (v, s))) KC = KC v s := fun h => by
        unfold ck
        rw [if_pos h]
        rfl
      have e900 : (900 : Int32).toInt = 900 := rfl
      rcases h with ⟨h1, h3, h, ⟨h4, h5⟩, hj⟩ | ⟨h1, h3, h, h4⟩ <;> subst h1 <;> subst h3
      · have tp := tk_pos h.1.1
        have n9 : ¬ (900 : Int32) < v2 := fun z => by
          have := i_lt z
          omega
        rw [if_neg n9, if_neg i10, if_neg i10]
        have k := knd_of h.1.1
        have k0 : s.1 7 3 = 0 ↔ t.1 0 12 = 0 := by
          have e0 : (0 : Int32).toInt = 0 := rfl
          rcases k with k | k | k | k | k
          · rw [k.1, k.2]
          · rw [k.1, k.2]; decide
          · rw [k.1, k.2.1]
          · rw [k.2.1]
            refine ⟨fun w => ?_, fun w => absurd w (by decide)⟩
            have z := isS_t k.1
            rw [w] at z
            omega
          · rw [k.1]
            refine ⟨fun w => ?_, fun w => absurd w (by decide)⟩
            rcases k.2 with q | q | ⟨i, q1, q2⟩
            · exact absurd (w.symm.trans q) (by decide)
            · exact absurd (w.symm.trans q) (by decide)
            · rw [w] at q2
              omega
        by_cases c : s.1 7 3 = 0
        · rw [if_pos c, if_pos (k0.mp c), ck1 (Or.inr rfl)]
          exact hE s t h hj c
        · rw [if_neg c, if_neg (fun z => c (k0.mpr z)), bd_bd]
          have both : RQ (prtC s) (f_X12_streetPart t) (fun r s2 r' t2 => Og (PaT n s t) r s2 r' t2 ∧ (¬ r' = 0 → J t2)) := fun r s2 r' t2 q1 q2 => ⟨part_r h r s2 r' t2 q1 q2, hJ t hj r' t2 q2⟩
          refine rq_b2 both (fun r s2 r' t2 gg => ?_)
          obtain ⟨g, gj⟩ := gg
          have lt := tk_lt h.1.1 c
          have a2 : (v2 + 1).toInt = v2.toInt + 1 := i_addx v2 1 (show -2147483648 ≤ v2.toInt + 1 ∧ v2.toInt + 1 ≤ 2147483647 from by omega)
          refine ih m' r (v2 + 1) r' s2 t2 ?_
          rcases g with ⟨z, z', g⟩ | ⟨z, z', g⟩
          · exact Or.inl ⟨z, z', g.1, ⟨by omega, by have := g.2; omega⟩, gj (by rw [z']; decide)⟩
          · exact Or.inr ⟨z, z', g, by omega⟩
      · rw [if_pos rfl, if_pos rfl]
        have hh : (if 900 < v2 then ck ((0 : Int32) = 0 ∨ (0 : Int32) = 1) (some ((0 : Int32), s)) else ck ((0 : Int32) = 0 ∨ (0 : Int32) = 1) (some ((0 : Int32), s))) = ck ((0 : Int32) = 0 ∨ (0 : Int32) = 1) (some ((0 : Int32), s)) := by
          by_cases z : 900 < v2
          · rw [if_pos z]
          · rw [if_neg z]
        rw [hh, ck1 (Or.inl rfl)]
        exact hF s t h
/-! copies of worlds: the class's -/
def loW (i : Nat) : Nat := if i = 1 then 12 else if i = 2 then 5 else if i = 3 then 6 else 0
def hiW (i : Nat) : Nat := if i = 1 then 20 else if i = 2 then 13 else if i = 3 then 9 else if i = 4 then 0 else if i = 0 then 0 else if i ≤ 6 then 24 else if i ≤ 10 then 8 else if i ≤ 15 then 4 else if i ≤ 19 then 8 else if i = 20 then 4 else if i ≤ 26 then 60 else 0
def dnW : List (Nat × Nat) → Nat → Nat
  | [], _ => 0
  | q :: r, i => if q.1 = i then q.2 else dnW r i
def CpI (b d : Nat) (l : List (Nat × Nat)) (nn : Nat) (s0 s : Sg) : Prop := (∀ c, ¬ (d + 1 ≤ c ∧ c ≤ d + 26) → s.1 c = s0.1 c ∧ s.2 c = s0.2 c) ∧ (∀ i k, 1 ≤ i → i ≤ 26 → loW i ≤ k → k < dnW l i → s.1 (d + i) k = s0.1 (b + i) k) ∧ (∀ k, k < nn → s.2 (d + 4) k = s0.2 (b + 4) k)
def CpW (b d : Nat) (s0 s : Sg) : Prop := (∀ c, ¬ (d + 1 ≤ c ∧ c ≤ d + 26) → s.1 c = s0.1 c ∧ s.2 c = s0.2 c) ∧ (∀ i k, 1 ≤ i → i ≤ 26 → loW i ≤ k → k < hiW i → s.1 (d + i) k = s0.1 (b + i) k) ∧ (∀ k, k < 24 → s.2 (d + 4) k = s0.2 (b + 4) k)
theorem cpi_0 (b d : Nat) (s : Sg) : CpI b d [] 0 s s := ⟨fun _ _ => ⟨rfl, rfl⟩, fun _ k _ _ _ h => absurd h (Nat.not_lt_zero k), fun k h => absurd h (Nat.not_lt_zero k)⟩
theorem va_cpy_in {α : Type} {f g : Nat → α} {n k : Nat} (h : k < n) : va_cpy f g 0 0 n k = f k := by
  unfold va_cpy
  rw [if_pos ⟨Nat.zero_le _, by omega⟩]
  exact congrArg f (by omega)
theorem pAc_1 (s : Sg) (c : Nat) (f : Nat → Int32) (c' : Nat) : (pA s c f).1 c' = if c' = c then f else s.1 c' := by
  by_cases h : c' = c
  · subst h
    rw [if_pos rfl]
    show va_up s.1 c' f c' = _
    rw [va_up_at]
  · rw [if_neg h]
    show va_up s.1 c f c' = _
    rw [va_up_off _ _ _ h]
theorem cpi_a {b d j n : Nat} {l : List (Nat × Nat)} {nn : Nat} {s0 s s' : Sg} (h : CpI b d l nn s0 s) (hbd : d + 26 < b + 1 ∨ b + 26 < d + 1) (hj : 1 ≤ j ∧ j ≤ 26) (e : s' = pA s (d + j) (va_cpy (s.1 (b + j)) (s.1 (d + j)) 0 0 n)) : CpI b d ((j, n) :: l) nn s0 s' := by
  subst e
  obtain ⟨h1, h2, h3⟩ := h
  refine ⟨fun c hc => ⟨?_, (h1 c hc).2⟩, fun i k i1 i2 k1 k2 => ?_, h3⟩
  · rw [pAc_1, if_neg (fun z => hc (by omega))]
    exact (h1 c hc).1
  · unfold dnW at k2
    rw [pAc_1]
    by_cases z : i = j
    · subst z
      rw [if_pos rfl] at k2
      rw [if_pos rfl, va_cpy_in k2]
      rw [(h1 (b + i) (by omega)).1]
    · rw [if_neg (fun y => z (by omega))]
      rw [if_neg (fun y => z y.symm)] at k2
      exact h2 i k i1 i2 k1 k2
theorem cpi_f {b d j k : Nat} {l : List (Nat × Nat)} {nn : Nat} {s0 s : Sg} (h : CpI b d l nn s0 s) (hbd : d + 26 < b + 1 ∨ b + 26 < d + 1) (hj : 1 ≤ j ∧ j ≤ 26) (hk : k ≤ dnW l j ∨ k = loW j) : CpI b d ((j, k + 1) :: l) nn s0 (pI s (d + j) k (s.1 (b + j) k)) := by
  obtain ⟨h1, h2, h3⟩ := h
  refine ⟨fun c hc => ⟨?_, (h1 c hc).2⟩, fun i k' i1 i2 k1 k2 => ?_, h3⟩
  · have e : (pI s (d + j) k (s.1 (b + j) k)).1 c = s.1 c := funext fun k' => by
      rw [pI_1, if_neg (fun z => hc (by have := z.1; omega))]
    rw [e]
    exact (h1 c hc).1
  · unfold dnW at k2
    rw [pI_1]
    by_cases z : i = j
    · subst z
      rw [if_pos rfl] at k2
      by_cases y : k' = k
      · subst y
        rw [if_pos ⟨rfl, rfl⟩, (h1 (b + i) (by omega)).1]
      · rw [if_neg (fun w => y w.2)]
        refine h2 i k' i1 i2 k1 ?_
        have k2 : k' < k + 1 := k2
        rcases hk with q | q <;> omega
    · rw [if_neg (fun y => z (by have := y.1; omega))]
      rw [if_neg (fun y => z y.symm)] at k2
      exact h2 i k' i1 i2 k1 k2
theorem cpi_e {b d : Nat} {l : List (Nat × Nat)} {nn : Nat} {s0 s s' : Sg} (h : CpI b d l nn s0 s) (e : s' = s) : CpI b d l nn s0 s' := by
  subst e; exact h
theorem cpi_b {b d : Nat} {l : List (Nat × Nat)} {s0 s : Sg} (h : CpI b d l 0 s0 s) (hbd : d + 26 < b + 1 ∨ b + 26 < d + 1) : CpI b d l 24 s0 (pB s (d + 4) (va_cpy (s.2 (b + 4)) (s.2 (d + 4)) 0 0 24)) := by
  obtain ⟨h1, h2, -⟩ := h
  have e : ∀ c, (pB s (d + 4) (va_cpy (s.2 (b + 4)) (s.2 (d + 4)) 0 0 24)).2 c = if c = d + 4 then va_cpy (s.2 (b + 4)) (s.2 (d + 4)) 0 0 24 else s.2 c := fun c => by
    show va_up s.2 (d + 4) _ c = _
    unfold va_up
    by_cases z : c = d + 4
    · rw [if_pos z]
    · rw [if_neg z]
  refine ⟨fun c hc => ⟨(h1 c hc).1, ?_⟩, h2, fun k hk => ?_⟩
  · rw [e, if_neg (fun z => hc (by omega))]
    exact (h1 c hc).2
  · rw [e, if_pos rfl, va_cpy_in hk]
    rw [(h1 (b + 4) (by omega)).2]
theorem cpw_of {b d : Nat} {l : List (Nat × Nat)} {s0 s : Sg} (h : CpI b d l 24 s0 s) (hl : ∀ i, i < 27 → hiW i ≤ dnW l i) : CpW b d s0 s := ⟨h.1, fun i k i1 i2 k1 k2 => h.2.1 i k i1 i2 k1 (Nat.lt_of_lt_of_le k2 (hl i (by omega))), h.2.2⟩

theorem cq_X4_copyFrom_52 {l : List (Nat × Nat)} {s0 s : Sg} (h : CpI 51 24 l 0 s0 s) : PQ (f_X4_copyFrom_52 s) (fun _ s9 => CpI 51 24 ((1, 20) :: ((1, 19) :: ((1, 18) :: ((1, 17) :: ((1, 16) :: ((1, 15) :: ((1, 14) :: ((1, 13) :: ((15, 4) :: ((14, 4) :: ((13, 4) :: ((12, 4) :: ((11, 4) :: ((10, 8) :: ((9, 8) :: ((8, 8) :: ((7, 8) :: ((6, 24) :: ((5, 24) :: l))))))))))))))))))) 24 s0 s9) := by
  unfold f_X4_copyFrom_52
  have h := cpi_b (b := 51) (d := 24) h (by decide)
  refine pq_b (c_X11_copyRow_29_56 _) (fun _ s2 es2 => ?_)
  have h := cpi_a (b := 51) (d := 24) (j := 5) (n := 24) h (by decide) (by decide) es2
  refine pq_b (c_X11_copyRow_30_57 _) (fun _ s4 es4 => ?_)
  have h := cpi_a (b := 51) (d := 24) (j := 6) (n := 24) h (by decide) (by decide) es4
  refine pq_b (c_X11_copyRow_31_58 _) (fun _ s6 es6 => ?_)
  have h := cpi_a (b := 51) (d := 24) (j := 7) (n := 8) h (by decide) (by decide) es6
  refine pq_b (c_X11_copyRow_32_59 _) (fun _ s8 es8 => ?_)
  have h := cpi_a (b := 51) (d := 24) (j := 8) (n := 8) h (by decide) (by decide) es8
  refine pq_b (c_X11_copyRow_33_60 _) (fun _ s10 es10 => ?_)
  have h := cpi_a (b := 51) (d := 24) (j := 9) (n := 8) h (by decide) (by decide) es10
  refine pq_b (c_X11_copyRow_34_61 _) (fun _ s12 es12 => ?_)
  have h := cpi_a (b := 51) (d := 24) (j := 10) (n := 8) h (by decide) (by decide) es12
  refine pq_b (c_X11_copyRow_35_62 _) (fun _ s14 es14 => ?_)
  have h := cpi_a (b := 51) (d := 24) (j := 11) (n := 4) h (by decide) (by decide) es14
  refine pq_b (c_X11_copyRow_36_63 _) (fun _ s16 es16 => ?_)
  have h := cpi_a (b := 51) (d := 24) (j := 12) (n := 4) h (by decide) (by decide) es16
  refine pq_b (c_X11_copyRow_37_64 _) (fun _ s18 es18 => ?_)
  have h := cpi_a (b := 51) (d := 24) (j := 13) (n := 4) h (by decide) (by decide) es18
  refine pq_b (c_X11_copyRow_38_65 _) (fun _ s20 es20 => ?_)
  have h := cpi_a (b := 51) (d := 24) (j := 14) (n := 4) h (by decide) (by decide) es20
  refine pq_b (c_X11_copyRow_39_66 _) (fun _ s22 es22 => ?_)
  have h := cpi_a (b := 51) (d := 24) (j := 15) (n := 4) h (by decide) (by decide) es22
  refine pq_n (fun s23 es23 => ?_)
  have h := cpi_f (b := 51) (d := 24) (j := 1) (k := 12) h (by decide) (by decide) (Or.inr rfl)
  have h := cpi_f (b := 51) (d := 24) (j := 1) (k := 13) h (by decide) (by decide) (Or.inl (Nat.le_refl _))
  have h := cpi_e h es23
  refine pq_n (fun s24 es24 => ?_)
  have h := cpi_f (b := 51) (d := 24) (j := 1) (k := 14) h (by decide) (by decide) (Or.inl (Nat.le_refl _))
  have h := cpi_f (b := 51) (d := 24) (j := 1) (k := 15) h (by decide) (by decide) (Or.inl (Nat.le_refl _))
  have h := cpi_e h es24
  refine pq_n (fun s25 es25 => ?_)
  have h := cpi_f (b := 51) (d := 24) (j := 1) (k := 16) h (by decide) (by decide) (Or.inl (Nat.le_refl _))
  have h := cpi_f (b := 51) (d := 24) (j := 1) (k := 17) h (by decide) (by decide) (Or.inl (Nat.le_refl _))
  have h := cpi_e h es25
  refine pq_c (fun _ => ?_)
  have h := cpi_f (b := 51) (d := 24) (j := 1) (k := 18) h (by decide) (by decide) (Or.inl (Nat.le_refl _))
  have h := cpi_f (b := 51) (d := 24) (j := 1) (k := 19) h (by decide) (by decide) (Or.inl (Nat.le_refl _))
  exact pq_s h
theorem cq_X2_copyFrom_53 {l : List (Nat × Nat)} {nn : Nat}{s0 s : Sg} (h : CpI 51 24 l nn s0 s) : PQ (f_X2_copyFrom_53 s) (fun _ s9 => CpI 51 24 ((2, 13) :: ((2, 12) :: ((2, 11) :: ((2, 10) :: ((2, 9) :: ((2, 8) :: ((2, 7) :: ((2, 6) :: ((20, 4) :: ((19, 8) :: ((18, 8) :: ((17, 8) :: ((16, 8) :: l))))))))))))) nn s0 s9) := by
  unfold f_X2_copyFrom_53
  refine pq_b (c_X11_copyRow_40_67 _) (fun _ s2 es2 => ?_)
  have h := cpi_a (b := 51) (d := 24) (j := 16) (n := 8) h (by decide) (by decide) es2
  refine pq_b (c_X11_copyRow_41_68 _) (fun _ s4 es4 => ?_)
  have h := cpi_a (b := 51) (d := 24) (j := 17) (n := 8) h (by decide) (by decide) es4
  refine pq_b (c_X11_copyRow_42_69 _) (fun _ s6 es6 => ?_)
  have h := cpi_a (b := 51) (d := 24) (j := 18) (n := 8) h (by decide) (by decide) es6
  refine pq_b (c_X11_copyRow_43_70 _) (fun _ s8 es8 => ?_)
  have h := cpi_a (b := 51) (d := 24) (j := 19) (n := 8) h (by decide) (by decide) es8
  refine pq_b (c_X11_copyRow_44_71 _) (fun _ s10 es10 => ?_)
  have h := cpi_a (b := 51) (d := 24) (j := 20) (n := 4) h (by decide) (by decide) es10
  refine pq_n (fun s11 es11 => ?_)
  have h := cpi_f (b := 51) (d := 24) (j := 2) (k := 5) h (by decide) (by decide) (Or.inr rfl)
  have h := cpi_f (b := 51) (d := 24) (j := 2) (k := 6) h (by decide) (by decide) (Or.inl (Nat.le_refl _))
  have h := cpi_e h es11
  refine pq_c (fun _ => ?_)
  refine pq_n (fun s13 es13 => ?_)
  have h := cpi_f (b := 51) (d := 24) (j := 2) (k := 7) h (by decide) (by decide) (Or.inl (Nat.le_refl _))
  have h := cpi_f (b := 51) (d := 24) (j := 2) (k := 8) h (by decide) (by decide) (Or.inl (Nat.le_refl _))
  have h := cpi_e h es13
  refine pq_n (fun s14 es14 => ?_)
  have h := cpi_f (b := 51) (d := 24) (j := 2) (k := 9) h (by decide) (by decide) (Or.inl (Nat.le_refl _))
  have h := cpi_f (b := 51) (d := 24) (j := 2) (k := 10) h (by decide) (by decide) (Or.inl (Nat.le_refl _))
  have h := cpi_e h es14
  refine pq_n (fun s15 es15 => ?_)
  have h := cpi_f (b := 51) (d := 24) (j := 2) (k := 11) h (by decide) (by decide) (Or.inl (Nat.le_refl _))
  have h := cpi_f (b := 51) (d := 24) (j := 2) (k := 12) h (by decide) (by decide) (Or.inl (Nat.le_refl _))
  have h := cpi_e h es15
  exact pq_s h
theorem cq_X5_copyFrom_54 {l : List (Nat × Nat)} {nn : Nat}{s0 s : Sg} (h : CpI 51 24 l nn s0 s) : PQ (f_X5_copyFrom_54 s) (fun _ s9 => CpI 51 24 ((3, 9) :: ((3, 8) :: ((3, 7) :: ((26, 60) :: ((25, 60) :: ((24, 60) :: ((23, 60) :: ((22, 60) :: ((21, 60) :: l))))))))) nn s0 s9) := by
  unfold f_X5_copyFrom_54
  refine pq_b (c_X11_copyRow_45_72 _) (fun _ s2 es2 => ?_)
  have h := cpi_a (b := 51) (d := 24) (j := 21) (n := 60) h (by decide) (by decide) es2
  refine pq_b (c_X11_copyRow_46_73 _) (fun _ s4 es4 => ?_)
  have h := cpi_a (b := 51) (d := 24) (j := 22) (n := 60) h (by decide) (by decide) es4
  refine pq_b (c_X11_copyRow_47_74 _) (fun _ s6 es6 => ?_)
  have h := cpi_a (b := 51) (d := 24) (j := 23) (n := 60) h (by decide) (by decide) es6
  refine pq_b (c_X11_copyRow_48_75 _) (fun _ s8 es8 => ?_)
  have h := cpi_a (b := 51) (d := 24) (j := 24) (n := 60) h (by decide) (by decide) es8
  refine pq_b (c_X11_copyRow_49_76 _) (fun _ s10 es10 => ?_)
  have h := cpi_a (b := 51) (d := 24) (j := 25) (n := 60) h (by decide) (by decide) es10
  refine pq_b (c_X11_copyRow_50_77 _) (fun _ s12 es12 => ?_)
  have h := cpi_a (b := 51) (d := 24) (j := 26) (n := 60) h (by decide) (by decide) es12
  refine pq_c (fun _ => ?_)
  refine pq_n (fun s14 es14 => ?_)
  have h := cpi_f (b := 51) (d := 24) (j := 3) (k := 6) h (by decide) (by decide) (Or.inr rfl)
  have h := cpi_f (b := 51) (d := 24) (j := 3) (k := 7) h (by decide) (by decide) (Or.inl (Nat.le_refl _))
  have h := cpi_e h es14
  have h := cpi_f (b := 51) (d := 24) (j := 3) (k := 8) h (by decide) (by decide) (Or.inl (Nat.le_refl _))
  exact pq_s h
theorem cq_X2_copyFrom_26_53 {l : List (Nat × Nat)} {nn : Nat}{s0 s : Sg} (h : CpI 24 51 l nn s0 s) : PQ (f_X2_copyFrom_26_53 s) (fun _ s9 => CpI 24 51 ((2, 13) :: ((2, 12) :: ((2, 11) :: ((2, 10) :: ((2, 9) :: ((2, 8) :: ((2, 7) :: ((2, 6) :: ((20, 4) :: ((19, 8) :: ((18, 8) :: ((17, 8) :: ((16, 8) :: l))))))))))))) nn s0 s9) := by
  unfold f_X2_copyFrom_26_53
  refine pq_b (c_X11_copyRow_67_40 _) (fun _ s2 es2 => ?_)
  have h := cpi_a (b := 24) (d := 51) (j := 16) (n := 8) h (by decide) (by decide) es2
  refine pq_b (c_X11_copyRow_68_41 _) (fun _ s4 es4 => ?_)
  have h := cpi_a (b := 24) (d := 51) (j := 17) (n := 8) h (by decide) (by decide) es4
  refine pq_b (c_X11_copyRow_69_42 _) (fun _ s6 es6 => ?_)
  have h := cpi_a (b := 24) (d := 51) (j := 18) (n := 8) h (by decide) (by decide) es6
  refine pq_b (c_X11_copyRow_70_43 _) (fun _ s8 es8 => ?_)
  have h := cpi_a (b := 24) (d := 51) (j := 19) (n := 8) h (by decide) (by decide) es8
  refine pq_b (c_X11_copyRow_71_44 _) (fun _ s10 es10 => ?_)
  have h := cpi_a (b := 24) (d := 51) (j := 20) (n := 4) h (by decide) (by decide) es10
  refine pq_n (fun s11 es11 => ?_)
  have h := cpi_f (b := 24) (d := 51) (j := 2) (k := 5) h (by decide) (by decide) (Or.inr rfl)
  have h := cpi_f (b := 24) (d := 51) (j := 2) (k := 6) h (by decide) (by decide) (Or.inl (Nat.le_refl _))
  have h := cpi_e h es11
  refine pq_c (fun _ => ?_)
  refine pq_n (fun s13 es13 => ?_)
  have h := cpi_f (b := 24) (d := 51) (j := 2) (k := 7) h (by decide) (by decide) (Or.inl (Nat.le_refl _))
  have h := cpi_f (b := 24) (d := 51) (j := 2) (k := 8) h (by decide) (by decide) (Or.inl (Nat.le_refl _))
  have h := cpi_e h es13
  refine pq_n (fun s14 es14 => ?_)
  have h := cpi_f (b := 24) (d := 51) (j := 2) (k := 9) h (by decide) (by decide) (Or.inl (Nat.le_refl _))
  have h := cpi_f (b := 24) (d := 51) (j := 2) (k := 10) h (by decide) (by decide) (Or.inl (Nat.le_refl _))
  have h := cpi_e h es14
  refine pq_n (fun s15 es15 => ?_)
  have h := cpi_f (b := 24) (d := 51) (j := 2) (k := 11) h (by decide) (by decide) (Or.inl (Nat.le_refl _))
  have h := cpi_f (b := 24) (d := 51) (j := 2) (k := 12) h (by decide) (by decide) (Or.inl (Nat.le_refl _))
  have h := cpi_e h es15
  exact pq_s h
theorem cq_X4_copyFrom_25_79 {l : List (Nat × Nat)} {s0 s : Sg} (h : CpI 24 78 l 0 s0 s) : PQ (f_X4_copyFrom_25_79 s) (fun _ s9 => CpI 24 78 ((1, 20) :: ((1, 19) :: ((1, 18) :: ((1, 17) :: ((1, 16) :: ((1, 15) :: ((1, 14) :: ((1, 13) :: ((15, 4) :: ((14, 4) :: ((13, 4) :: ((12, 4) :: ((11, 4) :: ((10, 8) :: ((9, 8) :: ((8, 8) :: ((7, 8) :: ((6, 24) :: ((5, 24) :: l))))))))))))))))))) 24 s0 s9) := by
  unfold f_X4_copyFrom_25_79
  have h := cpi_b (b := 24) (d := 78) h (by decide)
  refine pq_b (c_X11_copyRow_83_29 _) (fun _ s2 es2 => ?_)
  have h := cpi_a (b := 24) (d := 78) (j := 5) (n := 24) h (by decide) (by decide) es2
  refine pq_b (c_X11_copyRow_84_30 _) (fun _ s4 es4 => ?_)
  have h := cpi_a (b := 24) (d := 78) (j := 6) (n := 24) h (by decide) (by decide) es4
  refine pq_b (c_X11_copyRow_85_31 _) (fun _ s6 es6 => ?_)
  have h := cpi_a (b := 24) (d := 78) (j := 7) (n := 8) h (by decide) (by decide) es6
  refine pq_b (c_X11_copyRow_86_32 _) (fun _ s8 es8 => ?_)
  have h := cpi_a (b := 24) (d := 78) (j := 8) (n := 8) h (by decide) (by decide) es8
  refine pq_b (c_X11_copyRow_87_33 _) (fun _ s10 es10 => ?_)
  have h := cpi_a (b := 24) (d := 78) (j := 9) (n := 8) h (by decide) (by decide) es10
  refine pq_b (c_X11_copyRow_88_34 _) (fun _ s12 es12 => ?_)
  have h := cpi_a (b := 24) (d := 78) (j := 10) (n := 8) h (by decide) (by decide) es12
  refine pq_b (c_X11_copyRow_89_35 _) (fun _ s14 es14 => ?_)
  have h := cpi_a (b := 24) (d := 78) (j := 11) (n := 4) h (by decide) (by decide) es14
  refine pq_b (c_X11_copyRow_90_36 _) (fun _ s16 es16 => ?_)
  have h := cpi_a (b := 24) (d := 78) (j := 12) (n := 4) h (by decide) (by decide) es16
  refine pq_b (c_X11_copyRow_91_37 _) (fun _ s18 es18 => ?_)
  have h := cpi_a (b := 24) (d := 78) (j := 13) (n := 4) h (by decide) (by decide) es18
  refine pq_b (c_X11_copyRow_92_38 _) (fun _ s20 es20 => ?_)
  have h := cpi_a (b := 24) (d := 78) (j := 14) (n := 4) h (by decide) (by decide) es20
  refine pq_b (c_X11_copyRow_93_39 _) (fun _ s22 es22 => ?_)
  have h := cpi_a (b := 24) (d := 78) (j := 15) (n := 4) h (by decide) (by decide) es22
  refine pq_n (fun s23 es23 => ?_)
  have h := cpi_f (b := 24) (d := 78) (j := 1) (k := 12) h (by decide) (by decide) (Or.inr rfl)
  have h := cpi_f (b := 24) (d := 78) (j := 1) (k := 13) h (by decide) (by decide) (Or.inl (Nat.le_refl _))
  have h := cpi_e h es23
  refine pq_n (fun s24 es24 => ?_)
  have h := cpi_f (b := 24) (d := 78) (j := 1) (k := 14) h (by decide) (by decide) (Or.inl (Nat.le_refl _))
  have h := cpi_f (b := 24) (d := 78) (j := 1) (k := 15) h (by decide) (by decide) (Or.inl (Nat.le_refl _))
  have h := cpi_e h es24
  refine pq_n (fun s25 es25 => ?_)
  have h := cpi_f (b := 24) (d := 78) (j := 1) (k := 16) h (by decide) (by decide) (Or.inl (Nat.le_refl _))
  have h := cpi_f (b := 24) (d := 78) (j := 1) (k := 17) h (by decide) (by decide) (Or.inl (Nat.le_refl _))
  have h := cpi_e h es25
  refine pq_c (fun _ => ?_)
  have h := cpi_f (b := 24) (d := 78) (j := 1) (k := 18) h (by decide) (by decide) (Or.inl (Nat.le_refl _))
  have h := cpi_f (b := 24) (d := 78) (j := 1) (k := 19) h (by decide) (by decide) (Or.inl (Nat.le_refl _))
  exact pq_s h
theorem cq_X2_copyFrom_26_80 {l : List (Nat × Nat)} {nn : Nat}{s0 s : Sg} (h : CpI 24 78 l nn s0 s) : PQ (f_X2_copyFrom_26_80 s) (fun _ s9 => CpI 24 78 ((2, 13) :: ((2, 12) :: ((2, 11) :: ((2, 10) :: ((2, 9) :: ((2, 8) :: ((2, 7) :: ((2, 6) :: ((20, 4) :: ((19, 8) :: ((18, 8) :: ((17, 8) :: ((16, 8) :: l))))))))))))) nn s0 s9) := by
  unfold f_X2_copyFrom_26_80
  refine pq_b (c_X11_copyRow_94_40 _) (fun _ s2 es2 => ?_)
  have h := cpi_a (b := 24) (d := 78) (j := 16) (n := 8) h (by decide) (by decide) es2
  refine pq_b (c_X11_copyRow_95_41 _) (fun _ s4 es4 => ?_)
  have h := cpi_a (b := 24) (d := 78) (j := 17) (n := 8) h (by decide) (by decide) es4
  refine pq_b (c_X11_copyRow_96_42 _) (fun _ s6 es6 => ?_)
  have h := cpi_a (b := 24) (d := 78) (j := 18) (n := 8) h (by decide) (by decide) es6
  refine pq_b (c_X11_copyRow_97_43 _) (fun _ s8 es8 => ?_)
  have h := cpi_a (b := 24) (d := 78) (j := 19) (n := 8) h (by decide) (by decide) es8
  refine pq_b (c_X11_copyRow_98_44 _) (fun _ s10 es10 => ?_)
  have h := cpi_a (b := 24) (d := 78) (j := 20) (n := 4) h (by decide) (by decide) es10
  refine pq_n (fun s11 es11 => ?_)
  have h := cpi_f (b := 24) (d := 78) (j := 2) (k := 5) h (by decide) (by decide) (Or.inr rfl)
  have h := cpi_f (b := 24) (d := 78) (j := 2) (k := 6) h (by decide) (by decide) (Or.inl (Nat.le_refl _))
  have h := cpi_e h es11
  refine pq_c (fun _ => ?_)
  refine pq_n (fun s13 es13 => ?_)
  have h := cpi_f (b := 24) (d := 78) (j := 2) (k := 7) h (by decide) (by decide) (Or.inl (Nat.le_refl _))
  have h := cpi_f (b := 24) (d := 78) (j := 2) (k := 8) h (by decide) (by decide) (Or.inl (Nat.le_refl _))
  have h := cpi_e h es13
  refine pq_n (fun s14 es14 => ?_)
  have h := cpi_f (b := 24) (d := 78) (j := 2) (k := 9) h (by decide) (by decide) (Or.inl (Nat.le_refl _))
  have h := cpi_f (b := 24) (d := 78) (j := 2) (k := 10) h (by decide) (by decide) (Or.inl (Nat.le_refl _))
  have h := cpi_e h es14
  refine pq_n (fun s15 es15 => ?_)
  have h := cpi_f (b := 24) (d := 78) (j := 2) (k := 11) h (by decide) (by decide) (Or.inl (Nat.le_refl _))
  have h := cpi_f (b := 24) (d := 78) (j := 2) (k := 12) h (by decide) (by decide) (Or.inl (Nat.le_refl _))
  have h := cpi_e h es15
  exact pq_s h
theorem cq_X5_copyFrom_27_81 {l : List (Nat × Nat)} {nn : Nat}{s0 s : Sg} (h : CpI 24 78 l nn s0 s) : PQ (f_X5_copyFrom_27_81 s) (fun _ s9 => CpI 24 78 ((3, 9) :: ((3, 8) :: ((3, 7) :: ((26, 60) :: ((25, 60) :: ((24, 60) :: ((23, 60) :: ((22, 60) :: ((21, 60) :: l))))))))) nn s0 s9) := by
  unfold f_X5_copyFrom_27_81
  refine pq_b (c_X11_copyRow_99_45 _) (fun _ s2 es2 => ?_)
  have h := cpi_a (b := 24) (d := 78) (j := 21) (n := 60) h (by decide) (by decide) es2
  refine pq_b (c_X11_copyRow_100_46 _) (fun _ s4 es4 => ?_)
  have h := cpi_a (b := 24) (d := 78) (j := 22) (n := 60) h (by decide) (by decide) es4
  refine pq_b (c_X11_copyRow_101_47 _) (fun _ s6 es6 => ?_)
  have h := cpi_a (b := 24) (d := 78) (j := 23) (n := 60) h (by decide) (by decide) es6
  refine pq_b (c_X11_copyRow_102_48 _) (fun _ s8 es8 => ?_)
  have h := cpi_a (b := 24) (d := 78) (j := 24) (n := 60) h (by decide) (by decide) es8
  refine pq_b (c_X11_copyRow_103_49 _) (fun _ s10 es10 => ?_)
  have h := cpi_a (b := 24) (d := 78) (j := 25) (n := 60) h (by decide) (by decide) es10
  refine pq_b (c_X11_copyRow_104_50 _) (fun _ s12 es12 => ?_)
  have h := cpi_a (b := 24) (d := 78) (j := 26) (n := 60) h (by decide) (by decide) es12
  refine pq_c (fun _ => ?_)
  refine pq_n (fun s14 es14 => ?_)
  have h := cpi_f (b := 24) (d := 78) (j := 3) (k := 6) h (by decide) (by decide) (Or.inr rfl)
  have h := cpi_f (b := 24) (d := 78) (j := 3) (k := 7) h (by decide) (by decide) (Or.inl (Nat.le_refl _))
  have h := cpi_e h es14
  have h := cpi_f (b := 24) (d := 78) (j := 3) (k := 8) h (by decide) (by decide) (Or.inl (Nat.le_refl _))
  exact pq_s h
theorem cq_X4_copyFrom_25_106 {l : List (Nat × Nat)} {s0 s : Sg} (h : CpI 24 105 l 0 s0 s) : PQ (f_X4_copyFrom_25_106 s) (fun _ s9 => CpI 24 105 ((1, 20) :: ((1, 19) :: ((1, 18) :: ((1, 17) :: ((1, 16) :: ((1, 15) :: ((1, 14) :: ((1, 13) :: ((15, 4) :: ((14, 4) :: ((13, 4) :: ((12, 4) :: ((11, 4) :: ((10, 8) :: ((9, 8) :: ((8, 8) :: ((7, 8) :: ((6, 24) :: ((5, 24) :: l))))))))))))))))))) 24 s0 s9) := by
  unfold f_X4_copyFrom_25_106
  have h := cpi_b (b := 24) (d := 105) h (by decide)
  refine pq_b (c_X11_copyRow_110_29 _) (fun _ s2 es2 => ?_)
  have h := cpi_a (b := 24) (d := 105) (j := 5) (n := 24) h (by decide) (by decide) es2
  refine pq_b (c_X11_copyRow_111_30 _) (fun _ s4 es4 => ?_)
  have h := cpi_a (b := 24) (d := 105) (j := 6) (n := 24) h (by decide) (by decide) es4
  refine pq_b (c_X11_copyRow_112_31 _) (fun _ s6 es6 => ?_)
  have h := cpi_a (b := 24) (d := 105) (j := 7) (n := 8) h (by decide) (by decide) es6
  refine pq_b (c_X11_copyRow_113_32 _) (fun _ s8 es8 => ?_)
  have h := cpi_a (b := 24) (d := 105) (j := 8) (n := 8) h (by decide) (by decide) es8
  refine pq_b (c_X11_copyRow_114_33 _) (fun _ s10 es10 => ?_)
  have h := cpi_a (b := 24) (d := 105) (j := 9) (n := 8) h (by decide) (by decide) es10
  refine pq_b (c_X11_copyRow_115_34 _) (fun _ s12 es12 => ?_)
  have h := cpi_a (b := 24) (d := 105) (j := 10) (n := 8) h (by decide) (by decide) es12
  refine pq_b (c_X11_copyRow_116_35 _) (fun _ s14 es14 => ?_)
  have h := cpi_a (b := 24) (d := 105) (j := 11) (n := 4) h (by decide) (by decide) es14
  refine pq_b (c_X11_copyRow_117_36 _) (fun _ s16 es16 => ?_)
  have h := cpi_a (b := 24) (d := 105) (j := 12) (n := 4) h (by decide) (by decide) es16
  refine pq_b (c_X11_copyRow_118_37 _) (fun _ s18 es18 => ?_)
  have h := cpi_a (b := 24) (d := 105) (j := 13) (n := 4) h (by decide) (by decide) es18
  refine pq_b (c_X11_copyRow_119_38 _) (fun _ s20 es20 => ?_)
  have h := cpi_a (b := 24) (d := 105) (j := 14) (n := 4) h (by decide) (by decide) es20
  refine pq_b (c_X11_copyRow_120_39 _) (fun _ s22 es22 => ?_)
  have h := cpi_a (b := 24) (d := 105) (j := 15) (n := 4) h (by decide) (by decide) es22
  refine pq_n (fun s23 es23 => ?_)
  have h := cpi_f (b := 24) (d := 105) (j := 1) (k := 12) h (by decide) (by decide) (Or.inr rfl)
  have h := cpi_f (b := 24) (d := 105) (j := 1) (k := 13) h (by decide) (by decide) (Or.inl (Nat.le_refl _))
  have h := cpi_e h es23
  refine pq_n (fun s24 es24 => ?_)
  have h := cpi_f (b := 24) (d := 105) (j := 1) (k := 14) h (by decide) (by decide) (Or.inl (Nat.le_refl _))
  have h := cpi_f (b := 24) (d := 105) (j := 1) (k := 15) h (by decide) (by decide) (Or.inl (Nat.le_refl _))
  have h := cpi_e h es24
  refine pq_n (fun s25 es25 => ?_)
  have h := cpi_f (b := 24) (d := 105) (j := 1) (k := 16) h (by decide) (by decide) (Or.inl (Nat.le_refl _))
  have h := cpi_f (b := 24) (d := 105) (j := 1) (k := 17) h (by decide) (by decide) (Or.inl (Nat.le_refl _))
  have h := cpi_e h es25
  refine pq_c (fun _ => ?_)
  have h := cpi_f (b := 24) (d := 105) (j := 1) (k := 18) h (by decide) (by decide) (Or.inl (Nat.le_refl _))
  have h := cpi_f (b := 24) (d := 105) (j := 1) (k := 19) h (by decide) (by decide) (Or.inl (Nat.le_refl _))
  exact pq_s h
theorem cq_X2_copyFrom_26_107 {l : List (Nat × Nat)} {nn : Nat}{s0 s : Sg} (h : CpI 24 105 l nn s0 s) : PQ (f_X2_copyFrom_26_107 s) (fun _ s9 => CpI 24 105 ((2, 13) :: ((2, 12) :: ((2, 11) :: ((2, 10) :: ((2, 9) :: ((2, 8) :: ((2, 7) :: ((2, 6) :: ((20, 4) :: ((19, 8) :: ((18, 8) :: ((17, 8) :: ((16, 8) :: l))))))))))))) nn s0 s9) := by
  unfold f_X2_copyFrom_26_107
  refine pq_b (c_X11_copyRow_121_40 _) (fun _ s2 es2 => ?_)
  have h := cpi_a (b := 24) (d := 105) (j := 16) (n := 8) h (by decide) (by decide) es2
  refine pq_b (c_X11_copyRow_122_41 _) (fun _ s4 es4 => ?_)
  have h := cpi_a (b := 24) (d := 105) (j := 17) (n := 8) h (by decide) (by decide) es4
  refine pq_b (c_X11_copyRow_123_42 _) (fun _ s6 es6 => ?_)
  have h := cpi_a (b := 24) (d := 105) (j := 18) (n := 8) h (by decide) (by decide) es6
  refine pq_b (c_X11_copyRow_124_43 _) (fun _ s8 es8 => ?_)
  have h := cpi_a (b := 24) (d := 105) (j := 19) (n := 8) h (by decide) (by decide) es8
  refine pq_b (c_X11_copyRow_125_44 _) (fun _ s10 es10 => ?_)
  have h := cpi_a (b := 24) (d := 105) (j := 20) (n := 4) h (by decide) (by decide) es10
  refine pq_n (fun s11 es11 => ?_)
  have h := cpi_f (b := 24) (d := 105) (j := 2) (k := 5) h (by decide) (by decide) (Or.inr rfl)
  have h := cpi_f (b := 24) (d := 105) (j := 2) (k := 6) h (by decide) (by decide) (Or.inl (Nat.le_refl _))
  have h := cpi_e h es11
  refine pq_c (fun _ => ?_)
  refine pq_n (fun s13 es13 => ?_)
  have h := cpi_f (b := 24) (d := 105) (j := 2) (k := 7) h (by decide) (by decide) (Or.inl (Nat.le_refl _))
  have h := cpi_f (b := 24) (d := 105) (j := 2) (k := 8) h (by decide) (by decide) (Or.inl (Nat.le_refl _))
  have h := cpi_e h es13
  refine pq_n (fun s14 es14 => ?_)
  have h := cpi_f (b := 24) (d := 105) (j := 2) (k := 9) h (by decide) (by decide) (Or.inl (Nat.le_refl _))
  have h := cpi_f (b := 24) (d := 105) (j := 2) (k := 10) h (by decide) (by decide) (Or.inl (Nat.le_refl _))
  have h := cpi_e h es14
  refine pq_n (fun s15 es15 => ?_)
  have h := cpi_f (b := 24) (d := 105) (j := 2) (k := 11) h (by decide) (by decide) (Or.inl (Nat.le_refl _))
  have h := cpi_f (b := 24) (d := 105) (j := 2) (k := 12) h (by decide) (by decide) (Or.inl (Nat.le_refl _))
  have h := cpi_e h es15
  exact pq_s h
theorem cq_X5_copyFrom_27_108 {l : List (Nat × Nat)} {nn : Nat}{s0 s : Sg} (h : CpI 24 105 l nn s0 s) : PQ (f_X5_copyFrom_27_108 s) (fun _ s9 => CpI 24 105 ((3, 9) :: ((3, 8) :: ((3, 7) :: ((26, 60) :: ((25, 60) :: ((24, 60) :: ((23, 60) :: ((22, 60) :: ((21, 60) :: l))))))))) nn s0 s9) := by
  unfold f_X5_copyFrom_27_108
  refine pq_b (c_X11_copyRow_126_45 _) (fun _ s2 es2 => ?_)
  have h := cpi_a (b := 24) (d := 105) (j := 21) (n := 60) h (by decide) (by decide) es2
  refine pq_b (c_X11_copyRow_127_46 _) (fun _ s4 es4 => ?_)
  have h := cpi_a (b := 24) (d := 105) (j := 22) (n := 60) h (by decide) (by decide) es4
  refine pq_b (c_X11_copyRow_128_47 _) (fun _ s6 es6 => ?_)
  have h := cpi_a (b := 24) (d := 105) (j := 23) (n := 60) h (by decide) (by decide) es6
  refine pq_b (c_X11_copyRow_129_48 _) (fun _ s8 es8 => ?_)
  have h := cpi_a (b := 24) (d := 105) (j := 24) (n := 60) h (by decide) (by decide) es8
  refine pq_b (c_X11_copyRow_130_49 _) (fun _ s10 es10 => ?_)
  have h := cpi_a (b := 24) (d := 105) (j := 25) (n := 60) h (by decide) (by decide) es10
  refine pq_b (c_X11_copyRow_131_50 _) (fun _ s12 es12 => ?_)
  have h := cpi_a (b := 24) (d := 105) (j := 26) (n := 60) h (by decide) (by decide) es12
  refine pq_c (fun _ => ?_)
  refine pq_n (fun s14 es14 => ?_)
  have h := cpi_f (b := 24) (d := 105) (j := 3) (k := 6) h (by decide) (by decide) (Or.inr rfl)
  have h := cpi_f (b := 24) (d := 105) (j := 3) (k := 7) h (by decide) (by decide) (Or.inl (Nat.le_refl _))
  have h := cpi_e h es14
  have h := cpi_f (b := 24) (d := 105) (j := 3) (k := 8) h (by decide) (by decide) (Or.inl (Nat.le_refl _))
  exact pq_s h
theorem cq_X4_copyFrom_25_133 {l : List (Nat × Nat)} {s0 s : Sg} (h : CpI 24 132 l 0 s0 s) : PQ (f_X4_copyFrom_25_133 s) (fun _ s9 => CpI 24 132 ((1, 20) :: ((1, 19) :: ((1, 18) :: ((1, 17) :: ((1, 16) :: ((1, 15) :: ((1, 14) :: ((1, 13) :: ((15, 4) :: ((14, 4) :: ((13, 4) :: ((12, 4) :: ((11, 4) :: ((10, 8) :: ((9, 8) :: ((8, 8) :: ((7, 8) :: ((6, 24) :: ((5, 24) :: l))))))))))))))))))) 24 s0 s9) := by
  unfold f_X4_copyFrom_25_133
  have h := cpi_b (b := 24) (d := 132) h (by decide)
  refine pq_b (c_X11_copyRow_137_29 _) (fun _ s2 es2 => ?_)
  have h := cpi_a (b := 24) (d := 132) (j := 5) (n := 24) h (by decide) (by decide) es2
  refine pq_b (c_X11_copyRow_138_30 _) (fun _ s4 es4 => ?_)
  have h := cpi_a (b := 24) (d := 132) (j := 6) (n := 24) h (by decide) (by decide) es4
  refine pq_b (c_X11_copyRow_139_31 _) (fun _ s6 es6 => ?_)
  have h := cpi_a (b := 24) (d := 132) (j := 7) (n := 8) h (by decide) (by decide) es6
  refine pq_b (c_X11_copyRow_140_32 _) (fun _ s8 es8 => ?_)
  have h := cpi_a (b := 24) (d := 132) (j := 8) (n := 8) h (by decide) (by decide) es8
  refine pq_b (c_X11_copyRow_141_33 _) (fun _ s10 es10 => ?_)
  have h := cpi_a (b := 24) (d := 132) (j := 9) (n := 8) h (by decide) (by decide) es10
  refine pq_b (c_X11_copyRow_142_34 _) (fun _ s12 es12 => ?_)
  have h := cpi_a (b := 24) (d := 132) (j := 10) (n := 8) h (by decide) (by decide) es12
  refine pq_b (c_X11_copyRow_143_35 _) (fun _ s14 es14 => ?_)
  have h := cpi_a (b := 24) (d := 132) (j := 11) (n := 4) h (by decide) (by decide) es14
  refine pq_b (c_X11_copyRow_144_36 _) (fun _ s16 es16 => ?_)
  have h := cpi_a (b := 24) (d := 132) (j := 12) (n := 4) h (by decide) (by decide) es16
  refine pq_b (c_X11_copyRow_145_37 _) (fun _ s18 es18 => ?_)
  have h := cpi_a (b := 24) (d := 132) (j := 13) (n := 4) h (by decide) (by decide) es18
  refine pq_b (c_X11_copyRow_146_38 _) (fun _ s20 es20 => ?_)
  have h := cpi_a (b := 24) (d := 132) (j := 14) (n := 4) h (by decide) (by decide) es20
  refine pq_b (c_X11_copyRow_147_39 _) (fun _ s22 es22 => ?_)
  have h := cpi_a (b := 24) (d := 132) (j := 15) (n := 4) h (by decide) (by decide) es22
  refine pq_n (fun s23 es23 => ?_)
  have h := cpi_f (b := 24) (d := 132) (j := 1) (k := 12) h (by decide) (by decide) (Or.inr rfl)
  have h := cpi_f (b := 24) (d := 132) (j := 1) (k := 13) h (by decide) (by decide) (Or.inl (Nat.le_refl _))
  have h := cpi_e h es23
  refine pq_n (fun s24 es24 => ?_)
  have h := cpi_f (b := 24) (d := 132) (j := 1) (k := 14) h (by decide) (by decide) (Or.inl (Nat.le_refl _))
  have h := cpi_f (b := 24) (d := 132) (j := 1) (k := 15) h (by decide) (by decide) (Or.inl (Nat.le_refl _))
  have h := cpi_e h es24
  refine pq_n (fun s25 es25 => ?_)
  have h := cpi_f (b := 24) (d := 132) (j := 1) (k := 16) h (by decide) (by decide) (Or.inl (Nat.le_refl _))
  have h := cpi_f (b := 24) (d := 132) (j := 1) (k := 17) h (by decide) (by decide) (Or.inl (Nat.le_refl _))
  have h := cpi_e h es25
  refine pq_c (fun _ => ?_)
  have h := cpi_f (b := 24) (d := 132) (j := 1) (k := 18) h (by decide) (by decide) (Or.inl (Nat.le_refl _))
  have h := cpi_f (b := 24) (d := 132) (j := 1) (k := 19) h (by decide) (by decide) (Or.inl (Nat.le_refl _))
  exact pq_s h
theorem cq_X2_copyFrom_26_134 {l : List (Nat × Nat)} {nn : Nat}{s0 s : Sg} (h : CpI 24 132 l nn s0 s) : PQ (f_X2_copyFrom_26_134 s) (fun _ s9 => CpI 24 132 ((2, 13) :: ((2, 12) :: ((2, 11) :: ((2, 10) :: ((2, 9) :: ((2, 8) :: ((2, 7) :: ((2, 6) :: ((20, 4) :: ((19, 8) :: ((18, 8) :: ((17, 8) :: ((16, 8) :: l))))))))))))) nn s0 s9) := by
  unfold f_X2_copyFrom_26_134
  refine pq_b (c_X11_copyRow_148_40 _) (fun _ s2 es2 => ?_)
  have h := cpi_a (b := 24) (d := 132) (j := 16) (n := 8) h (by decide) (by decide) es2
  refine pq_b (c_X11_copyRow_149_41 _) (fun _ s4 es4 => ?_)
  have h := cpi_a (b := 24) (d := 132) (j := 17) (n := 8) h (by decide) (by decide) es4
  refine pq_b (c_X11_copyRow_150_42 _) (fun _ s6 es6 => ?_)
  have h := cpi_a (b := 24) (d := 132) (j := 18) (n := 8) h (by decide) (by decide) es6
  refine pq_b (c_X11_copyRow_151_43 _) (fun _ s8 es8 => ?_)
  have h := cpi_a (b := 24) (d := 132) (j := 19) (n := 8) h (by decide) (by decide) es8
  refine pq_b (c_X11_copyRow_152_44 _) (fun _ s10 es10 => ?_)
  have h := cpi_a (b := 24) (d := 132) (j := 20) (n := 4) h (by decide) (by decide) es10
  refine pq_n (fun s11 es11 => ?_)
  have h := cpi_f (b := 24) (d := 132) (j := 2) (k := 5) h (by decide) (by decide) (Or.inr rfl)
  have h := cpi_f (b := 24) (d := 132) (j := 2) (k := 6) h (by decide) (by decide) (Or.inl (Nat.le_refl _))
  have h := cpi_e h es11
  refine pq_c (fun _ => ?_)
  refine pq_n (fun s13 es13 => ?_)
  have h := cpi_f (b := 24) (d := 132) (j := 2) (k := 7) h (by decide) (by decide) (Or.inl (Nat.le_refl _))
  have h := cpi_f (b := 24) (d := 132) (j := 2) (k := 8) h (by decide) (by decide) (Or.inl (Nat.le_refl _))
  have h := cpi_e h es13
  refine pq_n (fun s14 es14 => ?_)
  have h := cpi_f (b := 24) (d := 132) (j := 2) (k := 9) h (by decide) (by decide) (Or.inl (Nat.le_refl _))
  have h := cpi_f (b := 24) (d := 132) (j := 2) (k := 10) h (by decide) (by decide) (Or.inl (Nat.le_refl _))
  have h := cpi_e h es14
  refine pq_n (fun s15 es15 => ?_)
  have h := cpi_f (b := 24) (d := 132) (j := 2) (k := 11) h (by decide) (by decide) (Or.inl (Nat.le_refl _))
  have h := cpi_f (b := 24) (d := 132) (j := 2) (k := 12) h (by decide) (by decide) (Or.inl (Nat.le_refl _))
  have h := cpi_e h es15
  exact pq_s h
theorem cq_X5_copyFrom_27_135 {l : List (Nat × Nat)} {nn : Nat}{s0 s : Sg} (h : CpI 24 132 l nn s0 s) : PQ (f_X5_copyFrom_27_135 s) (fun _ s9 => CpI 24 132 ((3, 9) :: ((3, 8) :: ((3, 7) :: ((26, 60) :: ((25, 60) :: ((24, 60) :: ((23, 60) :: ((22, 60) :: ((21, 60) :: l))))))))) nn s0 s9) := by
  unfold f_X5_copyFrom_27_135
  refine pq_b (c_X11_copyRow_153_45 _) (fun _ s2 es2 => ?_)
  have h := cpi_a (b := 24) (d := 132) (j := 21) (n := 60) h (by decide) (by decide) es2
  refine pq_b (c_X11_copyRow_154_46 _) (fun _ s4 es4 => ?_)
  have h := cpi_a (b := 24) (d := 132) (j := 22) (n := 60) h (by decide) (by decide) es4
  refine pq_b (c_X11_copyRow_155_47 _) (fun _ s6 es6 => ?_)
  have h := cpi_a (b := 24) (d := 132) (j := 23) (n := 60) h (by decide) (by decide) es6
  refine pq_b (c_X11_copyRow_156_48 _) (fun _ s8 es8 => ?_)
  have h := cpi_a (b := 24) (d := 132) (j := 24) (n := 60) h (by decide) (by decide) es8
  refine pq_b (c_X11_copyRow_157_49 _) (fun _ s10 es10 => ?_)
  have h := cpi_a (b := 24) (d := 132) (j := 25) (n := 60) h (by decide) (by decide) es10
  refine pq_b (c_X11_copyRow_158_50 _) (fun _ s12 es12 => ?_)
  have h := cpi_a (b := 24) (d := 132) (j := 26) (n := 60) h (by decide) (by decide) es12
  refine pq_c (fun _ => ?_)
  refine pq_n (fun s14 es14 => ?_)
  have h := cpi_f (b := 24) (d := 132) (j := 3) (k := 6) h (by decide) (by decide) (Or.inr rfl)
  have h := cpi_f (b := 24) (d := 132) (j := 3) (k := 7) h (by decide) (by decide) (Or.inl (Nat.le_refl _))
  have h := cpi_e h es14
  have h := cpi_f (b := 24) (d := 132) (j := 3) (k := 8) h (by decide) (by decide) (Or.inl (Nat.le_refl _))
  exact pq_s h
theorem cq_X4_copyFrom_79 {l : List (Nat × Nat)} {s0 s : Sg} (h : CpI 78 24 l 0 s0 s) : PQ (f_X4_copyFrom_79 s) (fun _ s9 => CpI 78 24 ((1, 20) :: ((1, 19) :: ((1, 18) :: ((1, 17) :: ((1, 16) :: ((1, 15) :: ((1, 14) :: ((1, 13) :: ((15, 4) :: ((14, 4) :: ((13, 4) :: ((12, 4) :: ((11, 4) :: ((10, 8) :: ((9, 8) :: ((8, 8) :: ((7, 8) :: ((6, 24) :: ((5, 24) :: l))))))))))))))))))) 24 s0 s9) := by
  unfold f_X4_copyFrom_79
  have h := cpi_b (b := 78) (d := 24) h (by decide)
  refine pq_b (c_X11_copyRow_29_83 _) (fun _ s2 es2 => ?_)
  have h := cpi_a (b := 78) (d := 24) (j := 5) (n := 24) h (by decide) (by decide) es2
  refine pq_b (c_X11_copyRow_30_84 _) (fun _ s4 es4 => ?_)
  have h := cpi_a (b := 78) (d := 24) (j := 6) (n := 24) h (by decide) (by decide) es4
  refine pq_b (c_X11_copyRow_31_85 _) (fun _ s6 es6 => ?_)
  have h := cpi_a (b := 78) (d := 24) (j := 7) (n := 8) h (by decide) (by decide) es6
  refine pq_b (c_X11_copyRow_32_86 _) (fun _ s8 es8 => ?_)
  have h := cpi_a (b := 78) (d := 24) (j := 8) (n := 8) h (by decide) (by decide) es8
  refine pq_b (c_X11_copyRow_33_87 _) (fun _ s10 es10 => ?_)
  have h := cpi_a (b := 78) (d := 24) (j := 9) (n := 8) h (by decide) (by decide) es10
  refine pq_b (c_X11_copyRow_34_88 _) (fun _ s12 es12 => ?_)
  have h := cpi_a (b := 78) (d := 24) (j := 10) (n := 8) h (by decide) (by decide) es12
  refine pq_b (c_X11_copyRow_35_89 _) (fun _ s14 es14 => ?_)
  have h := cpi_a (b := 78) (d := 24) (j := 11) (n := 4) h (by decide) (by decide) es14
  refine pq_b (c_X11_copyRow_36_90 _) (fun _ s16 es16 => ?_)
  have h := cpi_a (b := 78) (d := 24) (j := 12) (n := 4) h (by decide) (by decide) es16
  refine pq_b (c_X11_copyRow_37_91 _) (fun _ s18 es18 => ?_)
  have h := cpi_a (b := 78) (d := 24) (j := 13) (n := 4) h (by decide) (by decide) es18
  refine pq_b (c_X11_copyRow_38_92 _) (fun _ s20 es20 => ?_)
  have h := cpi_a (b := 78) (d := 24) (j := 14) (n := 4) h (by decide) (by decide) es20
  refine pq_b (c_X11_copyRow_39_93 _) (fun _ s22 es22 => ?_)
  have h := cpi_a (b := 78) (d := 24) (j := 15) (n := 4) h (by decide) (by decide) es22
  refine pq_n (fun s23 es23 => ?_)
  have h := cpi_f (b := 78) (d := 24) (j := 1) (k := 12) h (by decide) (by decide) (Or.inr rfl)
  have h := cpi_f (b := 78) (d := 24) (j := 1) (k := 13) h (by decide) (by decide) (Or.inl (Nat.le_refl _))
  have h := cpi_e h es23
  refine pq_n (fun s24 es24 => ?_)
  have h := cpi_f (b := 78) (d := 24) (j := 1) (k := 14) h (by decide) (by decide) (Or.inl (Nat.le_refl _))
  have h := cpi_f (b := 78) (d := 24) (j := 1) (k := 15) h (by decide) (by decide) (Or.inl (Nat.le_refl _))
  have h := cpi_e h es24
  refine pq_n (fun s25 es25 => ?_)
  have h := cpi_f (b := 78) (d := 24) (j := 1) (k := 16) h (by decide) (by decide) (Or.inl (Nat.le_refl _))
  have h := cpi_f (b := 78) (d := 24) (j := 1) (k := 17) h (by decide) (by decide) (Or.inl (Nat.le_refl _))
  have h := cpi_e h es25
  refine pq_c (fun _ => ?_)
  have h := cpi_f (b := 78) (d := 24) (j := 1) (k := 18) h (by decide) (by decide) (Or.inl (Nat.le_refl _))
  have h := cpi_f (b := 78) (d := 24) (j := 1) (k := 19) h (by decide) (by decide) (Or.inl (Nat.le_refl _))
  exact pq_s h
theorem cq_X2_copyFrom_80 {l : List (Nat × Nat)} {nn : Nat}{s0 s : Sg} (h : CpI 78 24 l nn s0 s) : PQ (f_X2_copyFrom_80 s) (fun _ s9 => CpI 78 24 ((2, 13) :: ((2, 12) :: ((2, 11) :: ((2, 10) :: ((2, 9) :: ((2, 8) :: ((2, 7) :: ((2, 6) :: ((20, 4) :: ((19, 8) :: ((18, 8) :: ((17, 8) :: ((16, 8) :: l))))))))))))) nn s0 s9) := by
  unfold f_X2_copyFrom_80
  refine pq_b (c_X11_copyRow_40_94 _) (fun _ s2 es2 => ?_)
  have h := cpi_a (b := 78) (d := 24) (j := 16) (n := 8) h (by decide) (by decide) es2
  refine pq_b (c_X11_copyRow_41_95 _) (fun _ s4 es4 => ?_)
  have h := cpi_a (b := 78) (d := 24) (j := 17) (n := 8) h (by decide) (by decide) es4
  refine pq_b (c_X11_copyRow_42_96 _) (fun _ s6 es6 => ?_)
  have h := cpi_a (b := 78) (d := 24) (j := 18) (n := 8) h (by decide) (by decide) es6
  refine pq_b (c_X11_copyRow_43_97 _) (fun _ s8 es8 => ?_)
  have h := cpi_a (b := 78) (d := 24) (j := 19) (n := 8) h (by decide) (by decide) es8
  refine pq_b (c_X11_copyRow_44_98 _) (fun _ s10 es10 => ?_)
  have h := cpi_a (b := 78) (d := 24) (j := 20) (n := 4) h (by decide) (by decide) es10
  refine pq_n (fun s11 es11 => ?_)
  have h := cpi_f (b := 78) (d := 24) (j := 2) (k := 5) h (by decide) (by decide) (Or.inr rfl)
  have h := cpi_f (b := 78) (d := 24) (j := 2) (k := 6) h (by decide) (by decide) (Or.inl (Nat.le_refl _))
  have h := cpi_e h es11
  refine pq_c (fun _ => ?_)
  refine pq_n (fun s13 es13 => ?_)
  have h := cpi_f (b := 78) (d := 24) (j := 2) (k := 7) h (by decide) (by decide) (Or.inl (Nat.le_refl _))
  have h := cpi_f (b := 78) (d := 24) (j := 2) (k := 8) h (by decide) (by decide) (Or.inl (Nat.le_refl _))
  have h := cpi_e h es13
  refine pq_n (fun s14 es14 => ?_)
  have h := cpi_f (b := 78) (d := 24) (j := 2) (k := 9) h (by decide) (by decide) (Or.inl (Nat.le_refl _))
  have h := cpi_f (b := 78) (d := 24) (j := 2) (k := 10) h (by decide) (by decide) (Or.inl (Nat.le_refl _))
  have h := cpi_e h es14
  refine pq_n (fun s15 es15 => ?_)
  have h := cpi_f (b := 78) (d := 24) (j := 2) (k := 11) h (by decide) (by decide) (Or.inl (Nat.le_refl _))
  have h := cpi_f (b := 78) (d := 24) (j := 2) (k := 12) h (by decide) (by decide) (Or.inl (Nat.le_refl _))
  have h := cpi_e h es15
  exact pq_s h
theorem cq_X5_copyFrom_81 {l : List (Nat × Nat)} {nn : Nat}{s0 s : Sg} (h : CpI 78 24 l nn s0 s) : PQ (f_X5_copyFrom_81 s) (fun _ s9 => CpI 78 24 ((3, 9) :: ((3, 8) :: ((3, 7) :: ((26, 60) :: ((25, 60) :: ((24, 60) :: ((23, 60) :: ((22, 60) :: ((21, 60) :: l))))))))) nn s0 s9) := by
  unfold f_X5_copyFrom_81
  refine pq_b (c_X11_copyRow_45_99 _) (fun _ s2 es2 => ?_)
  have h := cpi_a (b := 78) (d := 24) (j := 21) (n := 60) h (by decide) (by decide) es2
  refine pq_b (c_X11_copyRow_46_100 _) (fun _ s4 es4 => ?_)
  have h := cpi_a (b := 78) (d := 24) (j := 22) (n := 60) h (by decide) (by decide) es4
  refine pq_b (c_X11_copyRow_47_101 _) (fun _ s6 es6 => ?_)
  have h := cpi_a (b := 78) (d := 24) (j := 23) (n := 60) h (by decide) (by decide) es6
  refine pq_b (c_X11_copyRow_48_102 _) (fun _ s8 es8 => ?_)
  have h := cpi_a (b := 78) (d := 24) (j := 24) (n := 60) h (by decide) (by decide) es8
  refine pq_b (c_X11_copyRow_49_103 _) (fun _ s10 es10 => ?_)
  have h := cpi_a (b := 78) (d := 24) (j := 25) (n := 60) h (by decide) (by decide) es10
  refine pq_b (c_X11_copyRow_50_104 _) (fun _ s12 es12 => ?_)
  have h := cpi_a (b := 78) (d := 24) (j := 26) (n := 60) h (by decide) (by decide) es12
  refine pq_c (fun _ => ?_)
  refine pq_n (fun s14 es14 => ?_)
  have h := cpi_f (b := 78) (d := 24) (j := 3) (k := 6) h (by decide) (by decide) (Or.inr rfl)
  have h := cpi_f (b := 78) (d := 24) (j := 3) (k := 7) h (by decide) (by decide) (Or.inl (Nat.le_refl _))
  have h := cpi_e h es14
  have h := cpi_f (b := 78) (d := 24) (j := 3) (k := 8) h (by decide) (by decide) (Or.inl (Nat.le_refl _))
  exact pq_s h
theorem cq_X4_copyFrom_106 {l : List (Nat × Nat)} {s0 s : Sg} (h : CpI 105 24 l 0 s0 s) : PQ (f_X4_copyFrom_106 s) (fun _ s9 => CpI 105 24 ((1, 20) :: ((1, 19) :: ((1, 18) :: ((1, 17) :: ((1, 16) :: ((1, 15) :: ((1, 14) :: ((1, 13) :: ((15, 4) :: ((14, 4) :: ((13, 4) :: ((12, 4) :: ((11, 4) :: ((10, 8) :: ((9, 8) :: ((8, 8) :: ((7, 8) :: ((6, 24) :: ((5, 24) :: l))))))))))))))))))) 24 s0 s9) := by
  unfold f_X4_copyFrom_106
  have h := cpi_b (b := 105) (d := 24) h (by decide)
  refine pq_b (c_X11_copyRow_29_110 _) (fun _ s2 es2 => ?_)
  have h := cpi_a (b := 105) (d := 24) (j := 5) (n := 24) h (by decide) (by decide) es2
  refine pq_b (c_X11_copyRow_30_111 _) (fun _ s4 es4 => ?_)
  have h := cpi_a (b := 105) (d := 24) (j := 6) (n := 24) h (by decide) (by decide) es4
  refine pq_b (c_X11_copyRow_31_112 _) (fun _ s6 es6 => ?_)
  have h := cpi_a (b := 105) (d := 24) (j := 7) (n := 8) h (by decide) (by decide) es6
  refine pq_b (c_X11_copyRow_32_113 _) (fun _ s8 es8 => ?_)
  have h := cpi_a (b := 105) (d := 24) (j := 8) (n := 8) h (by decide) (by decide) es8
  refine pq_b (c_X11_copyRow_33_114 _) (fun _ s10 es10 => ?_)
  have h := cpi_a (b := 105) (d := 24) (j := 9) (n := 8) h (by decide) (by decide) es10
  refine pq_b (c_X11_copyRow_34_115 _) (fun _ s12 es12 => ?_)
  have h := cpi_a (b := 105) (d := 24) (j := 10) (n := 8) h (by decide) (by decide) es12
  refine pq_b (c_X11_copyRow_35_116 _) (fun _ s14 es14 => ?_)
  have h := cpi_a (b := 105) (d := 24) (j := 11) (n := 4) h (by decide) (by decide) es14
  refine pq_b (c_X11_copyRow_36_117 _) (fun _ s16 es16 => ?_)
  have h := cpi_a (b := 105) (d := 24) (j := 12) (n := 4) h (by decide) (by decide) es16
  refine pq_b (c_X11_copyRow_37_118 _) (fun _ s18 es18 => ?_)
  have h := cpi_a (b := 105) (d := 24) (j := 13) (n := 4) h (by decide) (by decide) es18
  refine pq_b (c_X11_copyRow_38_119 _) (fun _ s20 es20 => ?_)
  have h := cpi_a (b := 105) (d := 24) (j := 14) (n := 4) h (by decide) (by decide) es20
  refine pq_b (c_X11_copyRow_39_120 _) (fun _ s22 es22 => ?_)
  have h := cpi_a (b := 105) (d := 24) (j := 15) (n := 4) h (by decide) (by decide) es22
  refine pq_n (fun s23 es23 => ?_)
  have h := cpi_f (b := 105) (d := 24) (j := 1) (k := 12) h (by decide) (by decide) (Or.inr rfl)
  have h := cpi_f (b := 105) (d := 24) (j := 1) (k := 13) h (by decide) (by decide) (Or.inl (Nat.le_refl _))
  have h := cpi_e h es23
  refine pq_n (fun s24 es24 => ?_)
  have h := cpi_f (b := 105) (d := 24) (j := 1) (k := 14) h (by decide) (by decide) (Or.inl (Nat.le_refl _))
  have h := cpi_f (b := 105) (d := 24) (j := 1) (k := 15) h (by decide) (by decide) (Or.inl (Nat.le_refl _))
  have h := cpi_e h es24
  refine pq_n (fun s25 es25 => ?_)
  have h := cpi_f (b := 105) (d := 24) (j := 1) (k := 16) h (by decide) (by decide) (Or.inl (Nat.le_refl _))
  have h := cpi_f (b := 105) (d := 24) (j := 1) (k := 17) h (by decide) (by decide) (Or.inl (Nat.le_refl _))
  have h := cpi_e h es25
  refine pq_c (fun _ => ?_)
  have h := cpi_f (b := 105) (d := 24) (j := 1) (k := 18) h (by decide) (by decide) (Or.inl (Nat.le_refl _))
  have h := cpi_f (b := 105) (d := 24) (j := 1) (k := 19) h (by decide) (by decide) (Or.inl (Nat.le_refl _))
  exact pq_s h
theorem cq_X2_copyFrom_107 {l : List (Nat × Nat)} {nn : Nat}{s0 s : Sg} (h : CpI 105 24 l nn s0 s) : PQ (f_X2_copyFrom_107 s) (fun _ s9 => CpI 105 24 ((2, 13) :: ((2, 12) :: ((2, 11) :: ((2, 10) :: ((2, 9) :: ((2, 8) :: ((2, 7) :: ((2, 6) :: ((20, 4) :: ((19, 8) :: ((18, 8) :: ((17, 8) :: ((16, 8) :: l))))))))))))) nn s0 s9) := by
  unfold f_X2_copyFrom_107
  refine pq_b (c_X11_copyRow_40_121 _) (fun _ s2 es2 => ?_)
  have h := cpi_a (b := 105) (d := 24) (j := 16) (n := 8) h (by decide) (by decide) es2
  refine pq_b (c_X11_copyRow_41_122 _) (fun _ s4 es4 => ?_)
  have h := cpi_a (b := 105) (d := 24) (j := 17) (n := 8) h (by decide) (by decide) es4
  refine pq_b (c_X11_copyRow_42_123 _) (fun _ s6 es6 => ?_)
  have h := cpi_a (b := 105) (d := 24) (j := 18) (n := 8) h (by decide) (by decide) es6
  refine pq_b (c_X11_copyRow_43_124 _) (fun _ s8 es8 => ?_)
  have h := cpi_a (b := 105) (d := 24) (j := 19) (n := 8) h (by decide) (by decide) es8
  refine pq_b (c_X11_copyRow_44_125 _) (fun _ s10 es10 => ?_)
  have h := cpi_a (b := 105) (d := 24) (j := 20) (n := 4) h (by decide) (by decide) es10
  refine pq_n (fun s11 es11 => ?_)
  have h := cpi_f (b := 105) (d := 24) (j := 2) (k := 5) h (by decide) (by decide) (Or.inr rfl)
  have h := cpi_f (b := 105) (d := 24) (j := 2) (k := 6) h (by decide) (by decide) (Or.inl (Nat.le_refl _))
  have h := cpi_e h es11
  refine pq_c (fun _ => ?_)
  refine pq_n (fun s13 es13 => ?_)
  have h := cpi_f (b := 105) (d := 24) (j := 2) (k := 7) h (by decide) (by decide) (Or.inl (Nat.le_refl _))
  have h := cpi_f (b := 105) (d := 24) (j := 2) (k := 8) h (by decide) (by decide) (Or.inl (Nat.le_refl _))
  have h := cpi_e h es13
  refine pq_n (fun s14 es14 => ?_)
  have h := cpi_f (b := 105) (d := 24) (j := 2) (k := 9) h (by decide) (by decide) (Or.inl (Nat.le_refl _))
  have h := cpi_f (b := 105) (d := 24) (j := 2) (k := 10) h (by decide) (by decide) (Or.inl (Nat.le_refl _))
  have h := cpi_e h es14
  refine pq_n (fun s15 es15 => ?_)
  have h := cpi_f (b := 105) (d := 24) (j := 2) (k := 11) h (by decide) (by decide) (Or.inl (Nat.le_refl _))
  have h := cpi_f (b := 105) (d := 24) (j := 2) (k := 12) h (by decide) (by decide) (Or.inl (Nat.le_refl _))
  have h := cpi_e h es15
  exact pq_s h
theorem cq_X5_copyFrom_108 {l : List (Nat × Nat)} {nn : Nat}{s0 s : Sg} (h : CpI 105 24 l nn s0 s) : PQ (f_X5_copyFrom_108 s) (fun _ s9 => CpI 105 24 ((3, 9) :: ((3, 8) :: ((3, 7) :: ((26, 60) :: ((25, 60) :: ((24, 60) :: ((23, 60) :: ((22, 60) :: ((21, 60) :: l))))))))) nn s0 s9) := by
  unfold f_X5_copyFrom_108
  refine pq_b (c_X11_copyRow_45_126 _) (fun _ s2 es2 => ?_)
  have h := cpi_a (b := 105) (d := 24) (j := 21) (n := 60) h (by decide) (by decide) es2
  refine pq_b (c_X11_copyRow_46_127 _) (fun _ s4 es4 => ?_)
  have h := cpi_a (b := 105) (d := 24) (j := 22) (n := 60) h (by decide) (by decide) es4
  refine pq_b (c_X11_copyRow_47_128 _) (fun _ s6 es6 => ?_)
  have h := cpi_a (b := 105) (d := 24) (j := 23) (n := 60) h (by decide) (by decide) es6
  refine pq_b (c_X11_copyRow_48_129 _) (fun _ s8 es8 => ?_)
  have h := cpi_a (b := 105) (d := 24) (j := 24) (n := 60) h (by decide) (by decide) es8
  refine pq_b (c_X11_copyRow_49_130 _) (fun _ s10 es10 => ?_)
  have h := cpi_a (b := 105) (d := 24) (j := 25) (n := 60) h (by decide) (by decide) es10
  refine pq_b (c_X11_copyRow_50_131 _) (fun _ s12 es12 => ?_)
  have h := cpi_a (b := 105) (d := 24) (j := 26) (n := 60) h (by decide) (by decide) es12
  refine pq_c (fun _ => ?_)
  refine pq_n (fun s14 es14 => ?_)
  have h := cpi_f (b := 105) (d := 24) (j := 3) (k := 6) h (by decide) (by decide) (Or.inr rfl)
  have h := cpi_f (b := 105) (d := 24) (j := 3) (k := 7) h (by decide) (by decide) (Or.inl (Nat.le_refl _))
  have h := cpi_e h es14
  have h := cpi_f (b := 105) (d := 24) (j := 3) (k := 8) h (by decide) (by decide) (Or.inl (Nat.le_refl _))
  exact pq_s h
theorem cq_X4_copyFrom_133 {l : List (Nat × Nat)} {s0 s : Sg} (h : CpI 132 24 l 0 s0 s) : PQ (f_X4_copyFrom_133 s) (fun _ s9 => CpI 132 24 ((1, 20) :: ((1, 19) :: ((1, 18) :: ((1, 17) :: ((1, 16) :: ((1, 15) :: ((1, 14) :: ((1, 13) :: ((15, 4) :: ((14, 4) :: ((13, 4) :: ((12, 4) :: ((11, 4) :: ((10, 8) :: ((9, 8) :: ((8, 8) :: ((7, 8) :: ((6, 24) :: ((5, 24) :: l))))))))))))))))))) 24 s0 s9) := by
  unfold f_X4_copyFrom_133
  have h := cpi_b (b := 132) (d := 24) h (by decide)
  refine pq_b (c_X11_copyRow_29_137 _) (fun _ s2 es2 => ?_)
  have h := cpi_a (b := 132) (d := 24) (j := 5) (n := 24) h (by decide) (by decide) es2
  refine pq_b (c_X11_copyRow_30_138 _) (fun _ s4 es4 => ?_)
  have h := cpi_a (b := 132) (d := 24) (j := 6) (n := 24) h (by decide) (by decide) es4
  refine pq_b (c_X11_copyRow_31_139 _) (fun _ s6 es6 => ?_)
  have h := cpi_a (b := 132) (d := 24) (j := 7) (n := 8) h (by decide) (by decide) es6
  refine pq_b (c_X11_copyRow_32_140 _) (fun _ s8 es8 => ?_)
  have h := cpi_a (b := 132) (d := 24) (j := 8) (n := 8) h (by decide) (by decide) es8
  refine pq_b (c_X11_copyRow_33_141 _) (fun _ s10 es10 => ?_)
  have h := cpi_a (b := 132) (d := 24) (j := 9) (n := 8) h (by decide) (by decide) es10
  refine pq_b (c_X11_copyRow_34_142 _) (fun _ s12 es12 => ?_)
  have h := cpi_a (b := 132) (d := 24) (j := 10) (n := 8) h (by decide) (by decide) es12
  refine pq_b (c_X11_copyRow_35_143 _) (fun _ s14 es14 => ?_)
  have h := cpi_a (b := 132) (d := 24) (j := 11) (n := 4) h (by decide) (by decide) es14
  refine pq_b (c_X11_copyRow_36_144 _) (fun _ s16 es16 => ?_)
  have h := cpi_a (b := 132) (d := 24) (j := 12) (n := 4) h (by decide) (by decide) es16
  refine pq_b (c_X11_copyRow_37_145 _) (fun _ s18 es18 => ?_)
  have h := cpi_a (b := 132) (d := 24) (j := 13) (n := 4) h (by decide) (by decide) es18
  refine pq_b (c_X11_copyRow_38_146 _) (fun _ s20 es20 => ?_)
  have h := cpi_a (b := 132) (d := 24) (j := 14) (n := 4) h (by decide) (by decide) es20
  refine pq_b (c_X11_copyRow_39_147 _) (fun _ s22 es22 => ?_)
  have h := cpi_a (b := 132) (d := 24) (j := 15) (n := 4) h (by decide) (by decide) es22
  refine pq_n (fun s23 es23 => ?_)
  have h := cpi_f (b := 132) (d := 24) (j := 1) (k := 12) h (by decide) (by decide) (Or.inr rfl)
  have h := cpi_f (b := 132) (d := 24) (j := 1) (k := 13) h (by decide) (by decide) (Or.inl (Nat.le_refl _))
  have h := cpi_e h es23
  refine pq_n (fun s24 es24 => ?_)
  have h := cpi_f (b := 132) (d := 24) (j := 1) (k := 14) h (by decide) (by decide) (Or.inl (Nat.le_refl _))
  have h := cpi_f (b := 132) (d := 24) (j := 1) (k := 15) h (by decide) (by decide) (Or.inl (Nat.le_refl _))
  have h := cpi_e h es24
  refine pq_n (fun s25 es25 => ?_)
  have h := cpi_f (b := 132) (d := 24) (j := 1) (k := 16) h (by decide) (by decide) (Or.inl (Nat.le_refl _))
  have h := cpi_f (b := 132) (d := 24) (j := 1) (k := 17) h (by decide) (by decide) (Or.inl (Nat.le_refl _))
  have h := cpi_e h es25
  refine pq_c (fun _ => ?_)
  have h := cpi_f (b := 132) (d := 24) (j := 1) (k := 18) h (by decide) (by decide) (Or.inl (Nat.le_refl _))
  have h := cpi_f (b := 132) (d := 24) (j := 1) (k := 19) h (by decide) (by decide) (Or.inl (Nat.le_refl _))
  exact pq_s h
theorem cq_X2_copyFrom_134 {l : List (Nat × Nat)} {nn : Nat}{s0 s : Sg} (h : CpI 132 24 l nn s0 s) : PQ (f_X2_copyFrom_134 s) (fun _ s9 => CpI 132 24 ((2, 13) :: ((2, 12) :: ((2, 11) :: ((2, 10) :: ((2, 9) :: ((2, 8) :: ((2, 7) :: ((2, 6) :: ((20, 4) :: ((19, 8) :: ((18, 8) :: ((17, 8) :: ((16, 8) :: l))))))))))))) nn s0 s9) := by
  unfold f_X2_copyFrom_134
  refine pq_b (c_X11_copyRow_40_148 _) (fun _ s2 es2 => ?_)
  have h := cpi_a (b := 132) (d := 24) (j := 16) (n := 8) h (by decide) (by decide) es2
  refine pq_b (c_X11_copyRow_41_149 _) (fun _ s4 es4 => ?_)
  have h := cpi_a (b := 132) (d := 24) (j := 17) (n := 8) h (by decide) (by decide) es4
  refine pq_b (c_X11_copyRow_42_150 _) (fun _ s6 es6 => ?_)
  have h := cpi_a (b := 132) (d := 24) (j := 18) (n := 8) h (by decide) (by decide) es6
  refine pq_b (c_X11_copyRow_43_151 _) (fun _ s8 es8 => ?_)
  have h := cpi_a (b := 132) (d := 24) (j := 19) (n := 8) h (by decide) (by decide) es8
  refine pq_b (c_X11_copyRow_44_152 _) (fun _ s10 es10 => ?_)
  have h := cpi_a (b := 132) (d := 24) (j := 20) (n := 4) h (by decide) (by decide) es10
  refine pq_n (fun s11 es11 => ?_)
  have h := cpi_f (b := 132) (d := 24) (j := 2) (k := 5) h (by decide) (by decide) (Or.inr rfl)
  have h := cpi_f (b := 132) (d := 24) (j := 2) (k := 6) h (by decide) (by decide) (Or.inl (Nat.le_refl _))
  have h := cpi_e h es11
  refine pq_c (fun _ => ?_)
  refine pq_n (fun s13 es13 => ?_)
  have h := cpi_f (b := 132) (d := 24) (j := 2) (k := 7) h (by decide) (by decide) (Or.inl (Nat.le_refl _))
  have h := cpi_f (b := 132) (d := 24) (j := 2) (k := 8) h (by decide) (by decide) (Or.inl (Nat.le_refl _))
  have h := cpi_e h es13
  refine pq_n (fun s14 es14 => ?_)
  have h := cpi_f (b := 132) (d := 24) (j := 2) (k := 9) h (by decide) (by decide) (Or.inl (Nat.le_refl _))
  have h := cpi_f (b := 132) (d := 24) (j := 2) (k := 10) h (by decide) (by decide) (Or.inl (Nat.le_refl _))
  have h := cpi_e h es14
  refine pq_n (fun s15 es15 => ?_)
  have h := cpi_f (b := 132) (d := 24) (j := 2) (k := 11) h (by decide) (by decide) (Or.inl (Nat.le_refl _))
  have h := cpi_f (b := 132) (d := 24) (j := 2) (k := 12) h (by decide) (by decide) (Or.inl (Nat.le_refl _))
  have h := cpi_e h es15
  exact pq_s h
theorem cq_X5_copyFrom_135 {l : List (Nat × Nat)} {nn : Nat}{s0 s : Sg} (h : CpI 132 24 l nn s0 s) : PQ (f_X5_copyFrom_135 s) (fun _ s9 => CpI 132 24 ((3, 9) :: ((3, 8) :: ((3, 7) :: ((26, 60) :: ((25, 60) :: ((24, 60) :: ((23, 60) :: ((22, 60) :: ((21, 60) :: l))))))))) nn s0 s9) := by
  unfold f_X5_copyFrom_135
  refine pq_b (c_X11_copyRow_45_153 _) (fun _ s2 es2 => ?_)
  have h := cpi_a (b := 132) (d := 24) (j := 21) (n := 60) h (by decide) (by decide) es2
  refine pq_b (c_X11_copyRow_46_154 _) (fun _ s4 es4 => ?_)
  have h := cpi_a (b := 132) (d := 24) (j := 22) (n := 60) h (by decide) (by decide) es4
  refine pq_b (c_X11_copyRow_47_155 _) (fun _ s6 es6 => ?_)
  have h := cpi_a (b := 132) (d := 24) (j := 23) (n := 60) h (by decide) (by decide) es6
  refine pq_b (c_X11_copyRow_48_156 _) (fun _ s8 es8 => ?_)
  have h := cpi_a (b := 132) (d := 24) (j := 24) (n := 60) h (by decide) (by decide) es8
  refine pq_b (c_X11_copyRow_49_157 _) (fun _ s10 es10 => ?_)
  have h := cpi_a (b := 132) (d := 24) (j := 25) (n := 60) h (by decide) (by decide) es10
  refine pq_b (c_X11_copyRow_50_158 _) (fun _ s12 es12 => ?_)
  have h := cpi_a (b := 132) (d := 24) (j := 26) (n := 60) h (by decide) (by decide) es12
  refine pq_c (fun _ => ?_)
  refine pq_n (fun s14 es14 => ?_)
  have h := cpi_f (b := 132) (d := 24) (j := 3) (k := 6) h (by decide) (by decide) (Or.inr rfl)
  have h := cpi_f (b := 132) (d := 24) (j := 3) (k := 7) h (by decide) (by decide) (Or.inl (Nat.le_refl _))
  have h := cpi_e h es14
  have h := cpi_f (b := 132) (d := 24) (j := 3) (k := 8) h (by decide) (by decide) (Or.inl (Nat.le_refl _))
  exact pq_s h
theorem cw_X10_copyFrom_51 (s : Sg) : PQ (f_X10_copyFrom_51 s) (fun _ s9 => CpW 51 24 s s9) := by
  unfold f_X10_copyFrom_51
  refine pq_b (cq_X4_copyFrom_52 (cpi_0 51 24 s)) (fun _ s0 h0 => ?_)
  refine pq_b (cq_X2_copyFrom_53 h0) (fun _ s1 h1 => ?_)
  refine pq_b (cq_X5_copyFrom_54 h1) (fun _ s2 h2 => ?_)
  exact pq_s (cpw_of h2 (by decide))
theorem cw_X10_copyFrom_24_78 (s : Sg) : PQ (f_X10_copyFrom_24_78 s) (fun _ s9 => CpW 24 78 s s9) := by
  unfold f_X10_copyFrom_24_78
  refine pq_b (cq_X4_copyFrom_25_79 (cpi_0 24 78 s)) (fun _ s0 h0 => ?_)
  refine pq_b (cq_X2_copyFrom_26_80 h0) (fun _ s1 h1 => ?_)
  refine pq_b (cq_X5_copyFrom_27_81 h1) (fun _ s2 h2 => ?_)
  exact pq_s (cpw_of h2 (by decide))
theorem cw_X10_copyFrom_24_105 (s : Sg) : PQ (f_X10_copyFrom_24_105 s) (fun _ s9 => CpW 24 105 s s9) := by
  unfold f_X10_copyFrom_24_105
  refine pq_b (cq_X4_copyFrom_25_106 (cpi_0 24 105 s)) (fun _ s0 h0 => ?_)
  refine pq_b (cq_X2_copyFrom_26_107 h0) (fun _ s1 h1 => ?_)
  refine pq_b (cq_X5_copyFrom_27_108 h1) (fun _ s2 h2 => ?_)
  exact pq_s (cpw_of h2 (by decide))
theorem cw_X10_copyFrom_24_132 (s : Sg) : PQ (f_X10_copyFrom_24_132 s) (fun _ s9 => CpW 24 132 s s9) := by
  unfold f_X10_copyFrom_24_132
  refine pq_b (cq_X4_copyFrom_25_133 (cpi_0 24 132 s)) (fun _ s0 h0 => ?_)
  refine pq_b (cq_X2_copyFrom_26_134 h0) (fun _ s1 h1 => ?_)
  refine pq_b (cq_X5_copyFrom_27_135 h1) (fun _ s2 h2 => ?_)
  exact pq_s (cpw_of h2 (by decide))
theorem cw_X10_copyFrom_78 (s : Sg) : PQ (f_X10_copyFrom_78 s) (fun _ s9 => CpW 78 24 s s9) := by
  unfold f_X10_copyFrom_78
  refine pq_b (cq_X4_copyFrom_79 (cpi_0 78 24 s)) (fun _ s0 h0 => ?_)
  refine pq_b (cq_X2_copyFrom_80 h0) (fun _ s1 h1 => ?_)
  refine pq_b (cq_X5_copyFrom_81 h1) (fun _ s2 h2 => ?_)
  exact pq_s (cpw_of h2 (by decide))
theorem cw_X10_copyFrom_105 (s : Sg) : PQ (f_X10_copyFrom_105 s) (fun _ s9 => CpW 105 24 s s9) := by
  unfold f_X10_copyFrom_105
  refine pq_b (cq_X4_copyFrom_106 (cpi_0 105 24 s)) (fun _ s0 h0 => ?_)
  refine pq_b (cq_X2_copyFrom_107 h0) (fun _ s1 h1 => ?_)
  refine pq_b (cq_X5_copyFrom_108 h1) (fun _ s2 h2 => ?_)
  exact pq_s (cpw_of h2 (by decide))
theorem cw_X10_copyFrom_132 (s : Sg) : PQ (f_X10_copyFrom_132 s) (fun _ s9 => CpW 132 24 s s9) := by
  unfold f_X10_copyFrom_132
  refine pq_b (cq_X4_copyFrom_133 (cpi_0 132 24 s)) (fun _ s0 h0 => ?_)
  refine pq_b (cq_X2_copyFrom_134 h0) (fun _ s1 h1 => ?_)
  refine pq_b (cq_X5_copyFrom_135 h1) (fun _ s2 h2 => ?_)
  exact pq_s (cpw_of h2 (by decide))
