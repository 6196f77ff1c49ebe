/-! texts: rules for programs behind programs -/
section
variable {α α' β β' : Type} {R : α → Sg → β → Sg → Prop}
theorem rm_b {γ : Type} {oC : Option (α × Sg)} {o : Option (γ × Sg)} {k : γ → Sg → Option (β' × Sg)} {K : β' → Sg → Option (β × Sg)} (h : RQ oC (bd o (fun r s => bd (k r s) K)) R) : RQ oC (bd (bd o k) K) R := by
  rw [bd_bd]; exact h
theorem rc_b {γ : Type} {oM : Option (β × Sg)} {o : Option (γ × Sg)} {k : γ → Sg → Option (α' × Sg)} {K : α' → Sg → Option (α × Sg)} (h : RQ (bd o (fun r s => bd (k r s) K)) oM R) : RQ (bd (bd o k) K) oM R := by
  rw [bd_bd]; exact h
theorem rm_i {c : Prop} [Decidable c] {a b : Option (β' × Sg)} {oC : Option (α × Sg)} {K : β' → Sg → Option (β × Sg)} (h : c → RQ oC (bd a K) R) (g : ¬ c → RQ oC (bd b K) R) : RQ oC (bd (if c then a else b) K) R := by
  rw [bd_if]; exact rq_iM h g
theorem rc_i {c : Prop} [Decidable c] {a b : Option (α' × Sg)} {oM : Option (β × Sg)} {K : α' → Sg → Option (α × Sg)} (h : c → RQ (bd a K) oM R) (g : ¬ c → RQ (bd b K) oM R) : RQ (bd (if c then a else b) K) oM R := by
  rw [bd_if]; exact rq_iC h g
theorem rm_c {c : Prop} [Decidable c] {a : Option (β' × Sg)} {oC : Option (α × Sg)} {K : β' → Sg → Option (β × Sg)} (h : c → RQ oC (bd a K) R) : RQ oC (bd (ck c a) K) R := by
  rw [bd_ck]; exact rq_cM h
theorem rc_c {c : Prop} [Decidable c] {a : Option (α' × Sg)} {oM : Option (β × Sg)} {K : α' → Sg → Option (α × Sg)} (h : c → RQ (bd a K) oM R) : RQ (bd (ck c a) K) oM R := by
  rw [bd_ck]; exact rq_cC h
theorem rm_s {r : β'} {t : Sg} {oC : Option (α × Sg)} {K : β' → Sg → Option (β × Sg)} (h : RQ oC (K r t) R) : RQ oC (bd (some (r, t)) K) R := h
theorem rc_s {r : α'} {s : Sg} {oM : Option (β × Sg)} {K : α' → Sg → Option (α × Sg)} (h : RQ (K r s) oM R) : RQ (bd (some (r, s)) K) oM R := h
theorem rm_n {γ : Type} {e : γ} {k : γ → Option (β' × Sg)} {oC : Option (α × Sg)} {K : β' → Sg → Option (β × Sg)} (h : ∀ x, x = e → RQ oC (bd (k x) K) R) : RQ oC (bd (nmx e k) K) R := h e rfl
theorem rc_n {γ : Type} {e : γ} {k : γ → Option (α' × Sg)} {oM : Option (β × Sg)} {K : α' → Sg → Option (α × Sg)} (h : ∀ x, x = e → RQ (bd (k x) K) oM R) : RQ (bd (nmx e k) K) oM R := h e rfl
end
theorem i10 : ¬ (1 : Int32) = 0 := by decide
theorem grain0_r {n : Nat} {x a : Int32} {p0 : Int} {sC sM : Sg} {G : Sg → Sg → Prop} {K : Int32 → Sg → Option (Int32 × Sg)} (hK : K0 K) (h : HsT n x sC sM) (hp : p0 ≤ (sC.1 7 4).toInt) (ha : a.toNatClampNeg = 1936 + 3 * x.toNatClampNeg + 0) (KC KM : Sg → Option (Int32 × Sg)) (hk : ∀ s t, HsT n x s t → p0 ≤ (s.1 7 4).toInt → RQ (KC s) (bd (KM t) K) (Og G)) : RQ (bd (f_X6_takeGrains_67 101 x sC) (fun r s => if r = 0 then some (0, s) else KC s)) (bd (bd (f_X12_isThere 6 sM) (fun r t => if r = 0 then KM t else bd (f_X12_number a 0 999 t) (fun r t => if r = 0 then some (0, t) else KM t))) K) (Og G) := by
  unfold f_X6_takeGrains_67 f_X12_isThere
  refine rm_b (rm_b (rq_bM (word_r h.1.1) (fun r1 s2 g => ?_)))
  obtain ⟨es, g, -⟩ := g
  subst es
  have e := kws_eq g (i := 1) (by decide) (c := 101) (p := 6) rfl rfl
  refine rc_i (fun c => rm_i (fun d => ?_) (fun d => absurd (e.mp c) d)) (fun c => rm_i (fun d => absurd (e.mpr d) c) (fun d => ?_))
  · refine rc_b (rm_b (rq_b2 (adv_s h.1.1) (fun _ s _ t w => ?_)))
    have h' := hs_st w h
    have q1 := tk_pos h.1.1
    have q2 := w.2.2.2
    refine rm_s (rm_i (fun z => absurd z i10) (fun _ => ?_))
    refine rc_b (rm_b (rq_b2 (num_r h'.1.1 h'.1.2.1 0 999 a _ ha) (fun r s3 r' t3 g3 => ?_)))
    rcases g3 with ⟨z, z', g3⟩ | ⟨z, z', g3⟩ <;> subst z <;> subst z'
    · have q3 := tk_pos h'.1.1
      have q4 := g3.2.2.2.1
      refine rc_i (fun z => absurd z i10) (fun _ => rm_i (fun z => absurd z i10) (fun _ => rc_c (fun _ => rc_n (fun s6 e6 => rc_s (rq_iC (fun z => absurd z i10) (fun _ => ?_))))))
      refine hk _ _ ?_ ?_
      · rw [e6]
        exact hs_nu h' (j := 0) (by decide) g3
      · rw [e6, q_nc rfl]
        omega
    · refine rc_i (fun _ => rm_i (fun _ => ?_) (fun z => absurd rfl z)) (fun z => absurd rfl z)
      refine rc_s (rm_s ?_)
      rw [if_pos rfl, hK t3]
      exact rq_s (Or.inr ⟨rfl, rfl, g3⟩)
  · refine rc_s (rm_s (rq_iC (fun z => absurd z i10) (fun _ => rm_i (fun _ => hk _ _ h hp) (fun z => absurd rfl z))))
theorem grain1_r {n : Nat} {x a : Int32} {p0 : Int} {sC sM : Sg} {G : Sg → Sg → Prop} {K : Int32 → Sg → Option (Int32 × Sg)} (hK : K0 K) (h : HsT n x sC sM) (hp : p0 ≤ (sC.1 7 4).toInt) (ha : a.toNatClampNeg = 1936 + 3 * x.toNatClampNeg + 1) (KC KM : Sg → Option (Int32 × Sg)) (hk : ∀ s t, HsT n x s t → p0 ≤ (s.1 7 4).toInt → RQ (KC s) (bd (KM t) K) (Og G)) : RQ (bd (f_X6_takeGrains_68 102 x sC) (fun r s => if r = 0 then some (0, s) else KC s)) (bd (bd (f_X12_isThere 7 sM) (fun r t => if r = 0 then KM t else bd (f_X12_number a 0 999 t) (fun r t => if r = 0 then some (0, t) else KM t))) K) (Og G) := by
  unfold f_X6_takeGrains_68 f_X12_isThere
  refine rm_b (rm_b (rq_bM (word_r h.1.1) (fun r1 s2 g => ?_)))
  obtain ⟨es, g, -⟩ := g
  subst es
  have e := kws_eq g (i := 2) (by decide) (c := 102) (p := 7) rfl rfl
  refine rc_i (fun c => rm_i (fun d => ?_) (fun d => absurd (e.mp c) d)) (fun c => rm_i (fun d => absurd (e.mpr d) c) (fun d => ?_))
  · refine rc_b (rm_b (rq_b2 (adv_s h.1.1) (fun _ s _ t w => ?_)))
    have h' := hs_st w h
    have q1 := tk_pos h.1.1
    have q2 := w.2.2.2
    refine rm_s (rm_i (fun z => absurd z i10) (fun _ => ?_))
    refine rc_b (rm_b (rq_b2 (num_r h'.1.1 h'.1.2.1 0 999 a _ ha) (fun r s3 r' t3 g3 => ?_)))
    rcases g3 with ⟨z, z', g3⟩ | ⟨z, z', g3⟩ <;> subst z <;> subst z'
    · have q3 := tk_pos h'.1.1
      have q4 := g3.2.2.2.1
      refine rc_i (fun z => absurd z i10) (fun _ => rm_i (fun z => absurd z i10) (fun _ => rc_c (fun _ => rc_n (fun s6 e6 => rc_s (rq_iC (fun z => absurd z i10) (fun _ => ?_))))))
      refine hk _ _ ?_ ?_
      · rw [e6]
        exact hs_nu h' (j := 1) (by decide) g3
      · rw [e6, q_nc rfl]
        omega
    · refine rc_i (fun _ => rm_i (fun _ => ?_) (fun z => absurd rfl z)) (fun z => absurd rfl z)
      refine rc_s (rm_s ?_)
      rw [if_pos rfl, hK t3]
      exact rq_s (Or.inr ⟨rfl, rfl, g3⟩)
  · refine rc_s (rm_s (rq_iC (fun z => absurd z i10) (fun _ => rm_i (fun _ => hk _ _ h hp) (fun z => absurd rfl z))))
/-- the house is gone, on both sides -/
theorem hs_gone {n : Nat} {x : Int32} {s t : Sg} (v : Int32) (h : HsT n x s t) : HsT n x (pI s 52 17 ((s.1 52 17) ||| v)) (pI t 1 1929 ((t.1 1 1929) ||| v)) := by
  obtain ⟨h1, h2, h3, h4, h5, h6⟩ := h
  have ef : ∀ c, ¬ c = 52 → (pI s 52 17 ((s.1 52 17) ||| v)).1 c = s.1 c := fun c hc => funext fun k => by rw [pI_1, if_neg (fun z => hc z.1)]
  have e52 : ∀ k, ¬ k = 17 → (pI s 52 17 ((s.1 52 17) ||| v)).1 52 k = s.1 52 k := fun k hk => by rw [pI_1, if_neg (fun z => hk z.2)]
  have eM : ∀ k, ¬ k = 9 → mN (pI t 1 1929 ((t.1 1 1929) ||| v)) k = mN t k := fun k hk => by
    unfold mN
    rw [pI_1, if_neg (fun z => hk (by have := z.2; omega))]
  have m9 : mN (pI t 1 1929 ((t.1 1 1929) ||| v)) 9 = (t.1 1 1929) ||| v := q_eq
  have p17 : (pI s 52 17 ((s.1 52 17) ||| v)).1 52 17 = (s.1 52 17) ||| v := q_eq
  have g9 : s.1 52 17 = t.1 1 1929 := h3.2.2.1.1
  have c0 : cnN (pI t 1 1929 ((t.1 1 1929) ||| v)) = cnN t := cn_e (fun k hk => by rw [pI_1, if_neg (fun z => by have := z.2; omega)])
  have n0 : nmN (pI t 1 1929 ((t.1 1 1929) ||| v)) = nmN t := rfl
  have e55 : (pI s 52 17 ((s.1 52 17) ||| v)).2 55 = s.2 55 := rfl
  refine ⟨⟨?_, ?_, ?_⟩, ?_, ?_, ?_, ?_, h6⟩
  · exact tk_f (L1 := 2 ^ 207) (L2 := 2 ^ 1) h1.1 (fr_x 207 rfl) (fr_x 1 rfl) (m_and rfl) (m_and rfl)
  · rw [q_nc rfl]; exact h1.2.1
  · unfold ToldS
    rw [q_nc rfl, q_nc rfl, q_nc rfl]
    exact h1.2.2
  · unfold NmP at h2 ⊢
    rw [e52 12 (by decide), e55, ef 56 (by decide), ef 57 (by decide), c0, n0]
    exact h2
  · unfold PlanS
    rw [ef 58 (by decide), ef 59 (by decide), ef 60 (by decide), ef 61 (by decide), ef 62 (by decide), ef 63 (by decide), ef 64 (by decide), ef 65 (by decide), ef 66 (by decide)]
    exact plan_x h3 (fun k k1 k2 => e52 k (by omega)) (fun k hk => eM k (by omega)) ⟨by rw [p17, m9, g9], by rw [e52 18 (by decide), eM 13 (by decide)]; exact h3.2.2.1.2.1, by rw [e52 19 (by decide), eM 14 (by decide)]; exact h3.2.2.1.2.2⟩ (fun q _ => ⟨⟨rfl, rfl, rfl⟩, eM _ (by omega), eM _ (by omega), eM _ (by omega)⟩) (fun _ _ => rfl) (fun c _ => ⟨⟨rfl, rfl, rfl⟩, eM _ (by omega), eM _ (by omega), eM _ (by omega)⟩) (fun g _ => ⟨⟨rfl, rfl⟩, eM _ (by omega), eM _ (by omega)⟩)
  · unfold GrS
    rw [ef 67 (by decide), ef 68 (by decide), ef 69 (by decide), ef 70 (by decide), ef 71 (by decide), ef 53 (by decide)]
    exact gr_x h4 (fun h hh => ⟨by rw [eM _ (by omega)]; exact (h4.1 h hh).1, by rw [eM _ (by omega)]; exact (h4.1 h hh).2.1, rfl, eM _ (by omega)⟩) (fun g hg => by rw [eM _ (by omega)]; exact h4.2.1 g hg) (fun q _ => ⟨rfl, eM _ (by omega), eM _ (by omega)⟩) (fun _ _ _ => rfl) (fun k k1 k2 k3 => eM k k3) ⟨eM 3 (by decide), fun g _ _ => eM _ (by omega)⟩
  · rw [pI_1, if_neg (fun z => by have := z.2; omega)]
    exact h5
/-- the house is counted by the reference, too -/
theorem hs_done {n : Nat} {x : Int32} {s t : Sg} (h : HsT n x s t) : SR n s (pI t 1 1920 ((t.1 1 1920) + 1)) := by
  obtain ⟨h1, h2, h3, h4, h5, h6⟩ := h
  have e1 : (1 : Int32).toInt = 1 := rfl
  have ax : ((t.1 1 1920) + 1).toInt = (t.1 1 1920).toInt + 1 := by
    rw [h5]
    exact i_addx x 1 (show -2147483648 ≤ x.toInt + 1 ∧ x.toInt + 1 ≤ 2147483647 from by omega)
  have hx : (t.1 1 1920).toInt = x.toInt := by rw [h5]
  have eM : ∀ k, ¬ k = 0 → mN (pI t 1 1920 ((t.1 1 1920) + 1)) k = mN t k := fun k hk => by
    unfold mN
    rw [pI_1, if_neg (fun z => hk (by have := z.2; omega))]
  have m0 : mN (pI t 1 1920 ((t.1 1 1920) + 1)) 0 = (t.1 1 1920) + 1 := q_eq
  have g0 : mN t 0 = t.1 1 1920 := rfl
  have tk : TkRel n s (pI t 1 1920 ((t.1 1 1920) + 1)) := tk_f (L1 := 0) (L2 := 2 ^ 1) h1.1 fr_r (fr_x 1 rfl) rfl (m_and rfl)
  refine ⟨⟨tk, ?_, ?_⟩, ?_, ?_, ?_⟩
  · rw [q_nc rfl]; exact h1.2.1
  · unfold ToldS
    rw [q_nc rfl]
    exact h1.2.2
  · obtain ⟨⟨a1, a2, a3, a4⟩, ⟨b0, b1, b2, b3⟩, c5, cq, ca, cc, cg⟩ := h3
    unfold PlanS PlanA
    rw [eM 1 (by decide), eM 2 (by decide), eM 3 (by decide), eM 9 (by decide), eM 13 (by decide), eM 14 (by decide), m0]
    rw [g0] at a1 b0 cq cc
    refine ⟨⟨by omega, a2, a3, a4⟩, ⟨by omega, b1, b2, b3⟩, c5, fun q hq => ?_, ca, fun c hc => ?_, fun g hg => ?_⟩
    · have z := cq q hq
      rw [eM _ (by omega), eM _ (by omega), eM _ (by omega)]
      exact ⟨z.1, by omega, by omega, z.2.2.2⟩
    · have z := cc c hc
      rw [eM _ (by omega), eM _ (by omega), eM _ (by omega)]
      exact ⟨z.1, by omega, by omega, z.2.2.2⟩
    · have z := cg g hg
      rw [eM _ (by omega), eM _ (by omega)]
      exact z
  · exact gr_x h4 (fun h hh => ⟨by rw [eM _ (by omega)]; exact (h4.1 h hh).1, by rw [eM _ (by omega)]; exact (h4.1 h hh).2.1, rfl, eM _ (by omega)⟩) (fun g hg => by rw [eM _ (by omega)]; exact h4.2.1 g hg) (fun q _ => ⟨rfl, eM _ (by omega), eM _ (by omega)⟩) (fun _ _ _ => rfl) (fun k k1 k2 k3 => eM k (by omega)) ⟨eM 3 (by decide), fun g _ _ => eM _ (by omega)⟩
  · have hb : ∀ x, x < 4 → cnN t x ≤ 8 ∧ (2 ≤ x → cnN t x ≤ 4) := by
      have b := h3.2.1
      have d0 : mN t 0 = t.1 1 1920 := rfl
      have d1 : mN t 1 = t.1 1 1921 := rfl
      have d2 : mN t 2 = t.1 1 1922 := rfl
      have d3 : mN t 3 = t.1 1 1923 := rfl
      rw [d0, d1, d2, d3] at b
      refine u4 ?_ ?_ ?_ ?_
      · show (t.1 1 1920).toInt.toNat ≤ 8 ∧ (2 ≤ 0 → (t.1 1 1920).toInt.toNat ≤ 4)
        omega
      · show (t.1 1 1921).toInt.toNat ≤ 8 ∧ (2 ≤ 1 → (t.1 1 1921).toInt.toNat ≤ 4)
        omega
      · show (t.1 1 1922).toInt.toNat ≤ 8 ∧ (2 ≤ 2 → (t.1 1 1922).toInt.toNat ≤ 4)
        omega
      · show (t.1 1 1923).toInt.toNat ≤ 8 ∧ (2 ≤ 3 → (t.1 1 1923).toInt.toNat ≤ 4)
        omega
    have c1 : cnN (pI t 1 1920 ((t.1 1 1920) + 1)) 0 = cnN t 0 + 1 := by
      show ((pI t 1 1920 ((t.1 1 1920) + 1)).1 1 1920).toInt.toNat = (t.1 1 1920).toInt.toNat + 1
      rw [q_eq]
      omega
    have c2 : ∀ z, ¬ z = 0 → cnN (pI t 1 1920 ((t.1 1 1920) + 1)) z = cnN t z := fun z hz => by
      unfold cnN
      by_cases w : z < 4
      · rw [if_pos w, if_pos w, pI_1, if_neg (fun y => hz (by have := y.2; omega))]
      · rw [if_neg w, if_neg w]
    exact nm_done (q := 0) (by decide) (mM := fun _ => 0) h2 hb ⟨c1, c2⟩
theorem house_r {n : Nat} {sC sM : Sg} (h : SR n sC sM) : RQ (f_X6_takeHouse sC) (bd (f_X12_aHouse sM) (fun r s => f_X12_streetPart_b102 r s)) (Og (PaT n sC sM)) := by
  obtain ⟨h1, h2, h3, h4⟩ := h
  have hcnt : sC.1 52 13 = sM.1 1 1920 := Int32.toInt_inj.mp (by have := h2.1.1; show _ = (mN sM 0).toInt; omega)
  have q0 := tk_pos h1.1
  unfold f_X6_takeHouse f_X12_aHouse
  rw [hcnt]
  refine rm_n (fun x1 ex1 => rm_b (rq_b2 (new_r (q := 0) h1 h2 h3 h4 (by decide) 100 8 0 0 rfl rfl rfl rfl) (fun r s r' t g => og_k sg_K0 g (fun g => ?_))))
  obtain ⟨g1, g2, g3, g4, g5, g6⟩ := g
  have b0 : 0 ≤ (mN t 0).toInt ∧ (mN t 0).toInt ≤ 8 := g3.2.1.1
  have m0 : mN t 0 = sM.1 1 1920 := by
    show t.1 1 1920 = _
    rw [g6]
  have np : cnN t 0 < 8 := by
    obtain ⟨N, b, -, -, -, -, -, -, w⟩ := g2
    exact w.1
  have np' : (t.1 1 1920).toInt.toNat < 8 := np
  have hx : 0 ≤ (sM.1 1 1920).toInt ∧ (sM.1 1 1920).toInt < 8 := by
    rw [m0] at b0
    rw [g6] at np'
    omega
  generalize hxx : sM.1 1 1920 = x at hx m0 ex1 ⊢
  have e1920 : t.1 1 1920 = x := m0
  -- the class counts the house at once
  have hs : HsT n x (pI s 52 13 ((s.1 52 13) + 1)) t := by
    have ef : ∀ c, ¬ c = 52 → (pI s 52 13 ((s.1 52 13) + 1)).1 c = s.1 c := fun c hc => funext fun k => by rw [pI_1, if_neg (fun z => hc z.1)]
    have e52 : ∀ k, ¬ k = 13 → (pI s 52 13 ((s.1 52 13) + 1)).1 52 k = s.1 52 k := fun k hk => by rw [pI_1, if_neg (fun z => hk z.2)]
    have e55 : (pI s 52 13 ((s.1 52 13) + 1)).2 55 = s.2 55 := rfl
    refine ⟨⟨tk_f (L1 := 2 ^ 203) (L2 := 0) g1.1 (fr_x 203 rfl) fr_r (m_and rfl) rfl, g1.2.1, ?_⟩, ?_, ?_, ?_, e1920, hx⟩
    · unfold ToldS
      rw [q_nc rfl, q_nc rfl]
      exact g1.2.2
    · unfold NmP at g2 ⊢
      rw [e52 12 (by decide), e55, ef 56 (by decide), ef 57 (by decide)]
      exact g2
    · obtain ⟨⟨a1, a2, a3, a4⟩, a5, ⟨a6, a7, a8⟩, ar⟩ := g3
      unfold PlanS PlanA
      rw [ef 58 (by decide), ef 59 (by decide), ef 60 (by decide), ef 61 (by decide), ef 62 (by decide), ef 63 (by decide), ef 64 (by decide), ef 65 (by decide), ef 66 (by decide), e52 14 (by decide), e52 15 (by decide), e52 16 (by decide), e52 17 (by decide), e52 18 (by decide), e52 19 (by decide), q_eq]
      have e1 : (1 : Int32).toInt = 1 := rfl
      have w := a5.1
      have z := i_addx (s.1 52 13) 1 (show -2147483648 ≤ (s.1 52 13).toInt + 1 ∧ (s.1 52 13).toInt + 1 ≤ 2147483647 from by omega)
      exact ⟨⟨by omega, a2, a3, a4⟩, a5, ⟨a6, a7, a8⟩, ar⟩
    · unfold GrS
      rw [ef 67 (by decide), ef 68 (by decide), ef 69 (by decide), ef 70 (by decide), ef 71 (by decide), ef 53 (by decide)]
      exact g4
  have hk : (pI s 52 13 ((s.1 52 13) + 1)).1 7 3 = s.1 7 3 := q_nc rfl
  have hst : (sC.1 7 2).toInt ≤ ((pI s 52 13 ((s.1 52 13) + 1)).1 7 4).toInt := by rw [q_nc rfl]; exact g5
  generalize pI s 52 13 ((s.1 52 13) + 1) = s2 at hs hk hst ⊢
  have cl := cl_nat x
  have clx := cl_nat x1
  have e3 : (3 : Int32).toInt = 3 := rfl
  have e1936 : (1936 : Int32).toInt = 1936 := rfl
  have mx : (3 * x).toInt = 3 * x.toInt := i_mulx 3 x (show -2147483648 ≤ 3 * x.toInt ∧ 3 * x.toInt ≤ 2147483647 from by omega)
  have ax : x1.toInt = 1936 + 3 * x.toInt := by
    rw [ex1]
    have := i_addx 1936 (3 * x) (show -2147483648 ≤ 1936 + (3 * x).toInt ∧ 1936 + (3 * x).toInt ≤ 2147483647 from by omega)
    omega
  have dx : x1.toNatClampNeg = 1936 + 3 * x.toNatClampNeg + 0 := by omega
  have ax1 : (x1 + 1).toInt = x1.toInt + 1 := i_addx x1 1 (show -2147483648 ≤ x1.toInt + 1 ∧ x1.toInt + 1 ≤ 2147483647 from by omega)
  have clx1 := cl_nat (x1 + 1)
  have dx1 : (x1 + 1).toNatClampNeg = 1936 + 3 * x.toNatClampNeg + 1 := by omega
  -- grains, gone, the sign
  have body : ∀ fl : Int32, RQ (f_X6_takeHouse_b64 x fl s2) (bd (f_X12_aHouse_b57 x x1 fl t) (fun r s => f_X12_streetPart_b102 r s)) (Og (PaT n sC sM)) := by
    intro fl
    unfold f_X6_takeHouse_b64 f_X12_aHouse_b57
    refine grain0_r sg_K0 hs hst dx _ (fun t => f_X12_aHouse_b81 x x1 fl t) (fun sa ta ha pa => ?_)
    unfold f_X12_aHouse_b81
    refine grain1_r sg_K0 ha pa dx1 _ (fun t => f_X12_aHouse_b106 x fl t) (fun sb tb hb pb => ?_)
    unfold f_X12_aHouse_b106
    refine rm_b (rq_bM (word_r hb.1.1) (fun r1 s9 g => ?_))
    obtain ⟨es, g, -⟩ := g
    subst es
    have e := kws_eq g (i := 3) (by decide) (c := 103) (p := 5) rfl rfl
    refine rq_iC (fun c => rm_i (fun d => ?_) (fun d => absurd (e.mp c) d)) (fun c => rm_i (fun d => absurd (e.mpr d) c) (fun d => ?_))
    · refine rq_iC (fun c0 => rm_i (fun _ => ?_) (fun w => absurd c0 w)) (fun c0 => rm_i (fun w => absurd w c0) (fun _ => og_fk sg_K0 hb.1.1 hb.1.2.1 5 (by decide)))
      refine rq_nC (fun sc esc => rm_n (fun tc etc => ?_))
      have hc : HsT n x sc tc := by rw [esc, etc]; exact hs_gone _ hb
      have pc : (sC.1 7 2).toInt ≤ (sc.1 7 4).toInt := by rw [esc, q_nc rfl]; exact pb
      refine rm_b (rq_b2 (adv_s hc.1.1) (fun _ sd _ td w => ?_))
      have hd := hs_st w hc
      have z1 := tk_pos hc.1.1
      have z2 := w.2.2.2
      unfold f_X12_aHouse_b144
      exact rm_s (semi_r (hs_done hd) (by omega))
    · unfold f_X12_aHouse_b144
      exact rm_s (semi_r (hs_done hb) pb)
  -- which grains are told
  have kw := word_r hs.1.1
  refine rm_b (rq_bM kw (fun r4 s5 gw => ?_))
  obtain ⟨es, gw, -⟩ := gw
  subst es
  have e6 := kws_eq gw (i := 1) (by decide) (c := 101) (p := 6) rfl rfl
  refine rq_iC (fun c => rm_i (fun d => ?_) (fun d => absurd (e6.mp c) d)) (fun c => rm_i (fun d => absurd (e6.mpr d) c) (fun d => ?_))
  · unfold f_X6_takeHouse_b59 f_X12_aHouse_b52
    exact body 1
  · refine rm_b (rq_bM kw (fun r21 s22 gv => ?_))
    obtain ⟨es, gv, -⟩ := gv
    subst es
    have e7 := kws_eq gv (i := 2) (by decide) (c := 102) (p := 7) rfl rfl
    refine rq_iC (fun c2 => rm_i (fun d2 => ?_) (fun d2 => absurd (e7.mp c2) d2)) (fun c2 => rm_i (fun d2 => absurd (e7.mpr d2) c2) (fun d2 => ?_))
    · unfold f_X6_takeHouse_b59 f_X12_aHouse_b52
      exact body 1
    · exact body 0
