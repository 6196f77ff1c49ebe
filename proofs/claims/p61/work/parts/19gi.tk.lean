/-! days: an END; all of the text -/
theorem end_x {n x pp : Nat} {s t s' t' : Sg} {pv vx : Int32} (h : DyR n 0 0 x s t) (tk : TkRel n s' t') (hd : 1 ≤ (t.1 0 22).toInt) (hx : x < 60) (hpv : pv = s.1 23 ((t.1 0 22).toInt - 1).toNat) (hpp : pv.toInt = (pp : Int)) (hvx : vx = t.1 1 1931) (c25 : ∀ c, 25 ≤ c → c ≤ 39 → s'.1 c = s.1 c) (k28 : s'.2 28 = s.2 28) (cR : ∀ c, 72 ≤ c → c ≤ 76 → ∀ k, k < x → s'.1 c k = s.1 c k) (c72 : s'.1 72 x = 129) (c77 : ∀ k, s'.1 77 k = if k = pp then vx else if k = x then pv else s.1 77 k) (c54 : s'.1 54 7 = s.1 54 7 + 1 ∧ s'.1 54 8 = s.1 54 8 ∧ s'.1 54 6 = s.1 54 6) (c9 : (s'.1 9 4).toInt = (s.1 9 4).toInt - 1) (c23 : s'.1 23 = s.1 23) (m2 : t'.2 2 = t.2 2) (m8 : t'.1 8 = t.1 8) (m0 : t'.1 0 18 = t.1 0 18 ∧ (t'.1 0 22).toInt = (t.1 0 22).toInt - 1 ∧ t'.1 0 23 = t.1 0 23) (m31 : t'.1 1 1931 = t.1 1 1931 + 1) (mM : ∀ p, ¬ p = 1931 → ¬ (2030 + 6 * x ≤ p ∧ p < 2036 + 6 * x) → ¬ p = 2030 + 6 * pp + 4 → t'.1 1 p = t.1 1 p) (mr0 : t'.1 1 (2030 + 6 * x) = 26) (mr4 : t'.1 1 (2030 + 6 * x + 4) = pv) (mp4 : t'.1 1 (2030 + 6 * pp + 4) = vx) : DyR n 0 0 (x + 1) s' t' := by
  obtain ⟨⟨⟨h1, h2⟩, h3, N, h4, h5⟩, ⟨⟨p1, p2, p3, p4⟩, ⟨p5, p6⟩, p7, p8⟩, ⟨h7, h9⟩, h8⟩ := h
  have e1 : (1 : Int32).toInt = 1 := rfl
  have eX : (t.1 1 1931 + 1).toInt = (t.1 1 1931).toInt + 1 := i_addx _ _ (by omega)
  have hst := h7 ((t.1 0 22).toInt - 1).toNat (by omega)
  have hpx : pp < x := by
    rw [← hst.1, ← hpv] at hst
    omega
  have pM : ∀ k, PlP k → t'.1 1 k = t.1 1 k := fun k hk => mM k (by
    rcases hk with z | z | z | z | ⟨q', z, z'⟩ | ⟨c', z, z'⟩ | ⟨g', z, z'⟩ <;> omega) (by
    rcases hk with z | z | z | z | ⟨q', z, z'⟩ | ⟨c', z, z'⟩ | ⟨g', z, z'⟩ <;> omega) (by
    rcases hk with z | z | z | z | ⟨q', z, z'⟩ | ⟨c', z, z'⟩ | ⟨g', z, z'⟩ <;> omega)
  refine ⟨⟨⟨tk, m0.1.trans h2⟩, pln_g h3 (fun k _ _ => by rw [c25 25 (by decide) (by decide)]) (fun i k i1 i2 _ => by rw [c25 (24 + i) (by omega) (by omega)]) pM, N, ?_, ?_⟩, ⟨⟨?_, ?_, ?_, ?_⟩, ⟨?_, ?_⟩, ?_, ?_⟩, ⟨fun d hd => ?_, fun hd => absurd hd (by decide), ?_⟩, fun k hk => ?_⟩
  · rw [c25 25 (by decide) (by decide)]; exact h4
  · have ecn : cnM (t'.1 1) = cnM (t.1 1) := by
      funext q
      unfold cnM
      by_cases z : q < 4
      · rw [if_pos z, if_pos z, pM q (plp_0 (Or.inl z))]
      · rw [if_neg z, if_neg z]
    rw [ecn, m2, c25 29 (by decide) (by decide), c25 30 (by decide) (by decide)]
    show NmR (s'.2 28) _ _ _ _ _
    rw [k28]
    exact h5
  · rw [c54.1, m31, p1]
  · rw [c54.2.1, m0.2.2, p2]
  · rw [c9]; omega
  · rw [c54.2.2]; exact p4
  · rw [m31]; omega
  · rw [m31, m0.2.2]; omega
  · rw [m0.2.2]; omega
  · omega
  · rw [c23, m8]
    have y := h7 d (by omega)
    exact ⟨y.1, y.2.1, by omega⟩
  · have hD : (t.1 0 22).toInt = (((t.1 0 22).toInt - 1).toNat : Int) + 1 := by omega
    unfold NsR
    rw [m8, m0.2.1]
    exact ns_p h9.2 hD (by rw [← hst.1, ← hpv]; exact hpp) (fun k hk => mM _ (by omega) (by omega) (by omega)) mr0 (fun k hk ne => mM _ (by omega) (by omega) (by omega)) (by
      show (t'.1 1 (2030 + 6 * pp + 4)).toInt = _
      rw [mp4, hvx]
      omega) (by
      show (t'.1 1 (2030 + 6 * x + 4)).toInt = _
      rw [mr4]
      exact hpp)
  · by_cases z : k = x
    · subst z
      refine ⟨⟨?_, vd_0 (Or.inr (Or.inl mr0))⟩, fun _ _ => ?_⟩
      · exact Or.inr (Or.inr (Or.inr (Or.inr (Or.inr (Or.inr (Or.inr (Or.inl ⟨c72, mr0⟩)))))))
      · rw [c77, if_neg (by omega), if_pos rfl, mr4]
    · have hk2 : k < x := by omega
      obtain ⟨⟨w1, w2⟩, w3⟩ := h8 k hk2
      refine ⟨⟨?_, ?_⟩, fun y1 y2 => ?_⟩
      · unfold RwR at w1 ⊢
        rw [cR 72 (by decide) (by decide) k hk2, cR 73 (by decide) (by decide) k hk2, cR 74 (by decide) (by decide) k hk2, cR 75 (by decide) (by decide) k hk2, cR 76 (by decide) (by decide) k hk2, mM (2030 + 6 * k) (by omega) (by omega) (by omega), mM (2030 + 6 * k + 1) (by omega) (by omega) (by omega), mM (2030 + 6 * k + 2) (by omega) (by omega) (by omega), mM (2030 + 6 * k + 3) (by omega) (by omega) (by omega), mM (2030 + 6 * k + 5) (by omega) (by omega) (by omega)]
        exact w1
      · unfold VdR at w2 ⊢
        rw [mM (2030 + 6 * k) (by omega) (by omega) (by omega), mM (2030 + 6 * k + 1) (by omega) (by omega) (by omega), mM (2030 + 6 * k + 2) (by omega) (by omega) (by omega), mM (2030 + 6 * k + 3) (by omega) (by omega) (by omega), pM 0 (plp_0 (by omega)), pM 1 (plp_0 (by omega)), pM 3 (plp_0 (by omega)), pM 9 (plp_0 (by omega))]
        exact w2
      · by_cases y : k = pp
        · subst y
          rw [c77, if_pos rfl, mp4]
        · rw [c77, if_neg y, if_neg z, mM (2030 + 6 * k + 4) (by omega) (by omega) (by omega)]
          rw [cR 72 (by decide) (by decide) k hk2] at y1
          refine w3 y1 (fun d hd' => ?_)
          by_cases q : (d : Int) < (t'.1 0 22).toInt
          · have := y2 d q
            rw [m8] at this
            exact this
          · rw [show d = ((t.1 0 22).toInt - 1).toNat by omega, ← hst.1, ← hpv]
            omega
theorem end_r {n x : Nat} {s t : Sg} (h : DyR n 0 0 x s t) (hk : s.1 7 3 = 129) : RQ (f_X1_takeEnd s) (f_X12_dayStep t) (Og (StpT n x s)) := by
  have tk := h.1.1.1
  have h0 := h.1.1.2
  obtain ⟨⟨q1, q2, q3, q4⟩, ⟨q5, q6⟩, q7, q8⟩ := h.2.1
  unfold f_X1_takeEnd f_X12_dayStep
  refine rq_bM (word_r tk) (fun r t2 m => ?_)
  obtain ⟨et, mk, -⟩ := m
  rw [et]
  have er : r = 26 := (kws_eq mk (i := 29) (by decide) (c := 129) (p := 26) rfl (by decide +kernel)).mp hk
  rw [er]
  refine rq_nM (fun x3 e3 => rq_iM (fun y => absurd y (by decide)) (fun _ => rq_iM (fun y => absurd y (by decide)) (fun _ => ?_)))
  rw [b42_e (Or.inr (by decide))]
  unfold f_X12_dayStep_b61
  refine rq_iM (fun _ => ?_) (fun y => absurd rfl y)
  refine rq_iC (fun c => ?_) (fun c => ?_)
  · have z0 : (0 : Int32).toInt = 0 := rfl
    have y : t.1 0 22 = 0 := Int32.toInt_inj.mp (by rw [c] at q3; omega)
    exact rq_iM (fun _ => og_f tk h0 2 (by decide)) (fun z => absurd y z)
  · have z0 : (0 : Int32).toInt = 0 := rfl
    have d0 : ¬ t.1 0 22 = 0 := fun z => c (Int32.toInt_inj.mp (by rw [z] at q3; omega))
    have d0' : ¬ (t.1 0 22).toInt = 0 := fun z => d0 (Int32.toInt_inj.mp z)
    have hd : 1 ≤ (t.1 0 22).toInt := by omega
    have hx : x < 60 := by omega
    obtain ⟨ab1, ab2, ab3⟩ := dy_ab h hx
    rw [← e3] at ab2
    refine rq_iM (fun z => absurd z d0) (fun _ => ?_)
    unfold f_X12_dayStep_b80
    refine rq_iM (fun _ => ?_) (fun y => absurd rfl y)
    unfold f_X12_dayStep_b102
    refine rq_iM (fun _ => ?_) (fun y => absurd rfl y)
    unfold f_X12_dayStep_b122
    have e1 : (1 : Int32).toInt = 1 := rfl
    have c60 : (60 : Int32).toInt = 60 := rfl
    refine rq_iC (fun _ => ?_) (fun z => absurd (Int32.lt_iff_toInt_lt.mpr (by omega)) z)
    have ed : ((s.1 9 4) - 1).toInt = (s.1 9 4).toInt - 1 := i_subx _ _ (by omega)
    have x54 : (s.1 54 7).toNatClampNeg = x := cl_h ab1
    have dN : ((s.1 9 4) - 1).toNatClampNeg = ((t.1 0 22).toInt - 1).toNat := by
      have := cl_nat ((s.1 9 4) - 1)
      omega
    have hst := h.2.2.1.1 ((t.1 0 22).toInt - 1).toNat (by omega)
    refine rq_cC (fun _ => rq_nC (fun x4 f4 => rq_cC (fun _ => rq_nC (fun s6 f6 => rq_cC (fun _ => rq_nC (fun s8 f8 => rq_cC (fun _ => rq_nC (fun s10 f10 => ?_))))))))
    rw [q_eq, dN, pI_o _ _ _ _ _ (by decide)] at f4
    rw [pI_1 s 9 4 _ 54 7, if_neg (by decide), x54] at f6
    have g6 : s6.1 54 7 = s.1 54 7 := by rw [f6, q_nc rfl, q_nc rfl]
    rw [g6, x54] at f8
    have g8 : s8.1 54 7 = s.1 54 7 := by rw [f8, q_nc rfl, g6]
    rw [g8] at f10
    have g10 : s10.1 54 7 = s.1 54 7 := by rw [f10, q_nc rfl, g8]
    rw [g10]
    obtain ⟨pp, hpp⟩ : ∃ pp : Nat, x4.toInt = (pp : Int) := ⟨x4.toInt.toNat, by rw [f4, hst.1]; omega⟩
    rw [cl_h hpp] at f10
    have hpx : pp < x := by
      have := hst.2.2
      rw [← hst.1, ← f4] at this
      omega
    refine rq_iM (fun _ => rq_cM (fun _ => rq_nM (fun t27 f27 => ?_))) (fun y => absurd rfl y)
    rw [row_0 ab2] at f27
    have z27 : ClZ x t27 t27 := ⟨fun _ _ => rfl, rfl, fun _ _ => rfl⟩
    refine lp_d (x := x) (t0 := t27) 26 (t.1 1 1931) x3 0 hx ab2 (fun t' hz => ?_) BIG 1 1 t27 rfl (by decide) (by decide) z27
    have k6 : TkRel n s6 t := by
      rw [f6]
      exact tk_f (L1 := 2 ^ 72) (L2 := 0) (tk_f (L1 := 2 ^ 228) (L2 := 0) tk (fr_x 228 rfl) fr_r (m_and rfl) rfl) (fr_x 72 rfl) fr_r (m_and rfl) rfl
    have k10 : TkRel n s10 t := by
      rw [f10]
      refine tk_f (L1 := 2 ^ 77) (L2 := 0) ?_ (fr_x 77 rfl) fr_r (m_and rfl) rfl
      rw [f8]
      exact tk_f (L1 := 2 ^ 77) (L2 := 0) k6 (fr_x 77 rfl) fr_r (m_and rfl) rfl
    have k11 : TkRel n (pI s10 54 7 ((s.1 54 7) + 1)) t := tk_f (L1 := 2 ^ 219) (L2 := 0) k10 (fr_x 219 rfl) fr_r (m_and rfl) rfl
    have k12 : TkRel n (pI s10 54 7 ((s.1 54 7) + 1)) t27 := by
      rw [f27]
      exact tk_f (L1 := 0) (L2 := 2 ^ 1) (tk_f (L1 := 0) (L2 := 2 ^ 43) k11 fr_r (fr_x 43 rfl) rfl (m_and rfl)) fr_r (fr_x 1 rfl) rfl (m_and rfl)
    have k13 : TkRel n (pI s10 54 7 ((s.1 54 7) + 1)) (pI t' 1 1931 ((t'.1 1 1931) + 1)) := tk_f (L1 := 0) (L2 := 2 ^ 1) (tk_f (L1 := 0) (L2 := 2 ^ 1) k12 fr_r (clz_fr hz) rfl (m_and rfl)) fr_r (fr_x 1 rfl) rfl (m_and rfl)
    have l10 : (pI s10 54 7 ((s.1 54 7) + 1)).1 7 2 = s.1 7 2 := by rw [q_nc rfl, f10, q_nc rfl, f8, q_nc rfl, f6, q_nc rfl, q_nc rfl]
    refine rq_b2 (adv_s k13) (fun _ s12 _ t11 w => ?_)
    rw [do_26]
    refine rm_s (rq_iM (fun z => absurd z i10) (fun _ => rq_iM (fun _ => ?_) (fun z => absurd rfl z)))
    unfold f_X12_dayStep_b227
    refine rq_iM (fun _ => rq_cM (fun _ => rq_cM (fun _ => rq_nM (fun t14 f14 => rq_cM (fun _ => rq_cM (fun _ => rq_nM (fun t17 f17 => ?_))))))) (fun z => absurd rfl z)
    obtain ⟨wc, wm, w0⟩ := st_all w
    have pw := w.2.2.2
    rw [l10] at pw
    -- the reference's cells
    have h27 : ∀ p, ¬ p = 2030 + 6 * x + 0 → t27.1 1 p = t.1 1 p := fun p hp => by
      rw [f27, pI_1, if_neg (fun z => hp z.2), pI_o _ _ _ _ _ (by decide)]
    have h31 : t'.1 1 1931 = t.1 1 1931 := by rw [hz.2.2 1931 (by omega), h27 1931 (by omega)]
    have o0 : ∀ k, ¬ (12 ≤ k ∧ k ≤ 15) → ¬ k = 23 → t11.1 0 k = t.1 0 k := fun k z1 z2 => by
      rw [w0 k z1, pI_o _ _ _ _ _ (by decide), hz.1 0 (by decide), f27, pI_o _ _ _ _ _ (by decide), pI_1, if_neg (fun z => z2 z.2)]
    have o23 : t11.1 0 23 = t.1 0 23 := by
      rw [w0 23 (by omega), pI_o _ _ _ _ _ (by decide), hz.1 0 (by decide), f27, pI_o _ _ _ _ _ (by decide), q_eq]
      exact Int32.add_zero _
    have o8 : t11.1 8 = t.1 8 := by
      rw [(wm 8 (by decide) (by decide)).1, pI_o _ _ _ _ _ (by decide), hz.1 8 (by decide), f27, pI_o _ _ _ _ _ (by decide), pI_o _ _ _ _ _ (by decide)]
    have o1 : t11.1 1 = (pI t' 1 1931 ((t'.1 1 1931) + 1)).1 1 := (wm 1 (by decide) (by decide)).1
    have et22 : ((t.1 0 22) - 1).toInt = (t.1 0 22).toInt - 1 := i_subx _ _ (by omega)
    have dM : ((t.1 0 22) - 1).toNatClampNeg = ((t.1 0 22).toInt - 1).toNat := by
      have := cl_nat ((t.1 0 22) - 1)
      omega
    rw [o0 22 (by omega) (by decide)] at f14
    rw [q_eq, dM, pI_o _ _ _ _ _ (by decide), o8, ← hst.1, ← f4, row_p (j := 4) ab2 hx 4 rfl (by decide)] at f14
    have a8 : t14.1 8 = t.1 8 := by rw [f14, pI_o _ _ _ _ _ (by decide), pI_o _ _ _ _ _ (by decide), o8]
    have a22 : t14.1 0 22 = (t.1 0 22) - 1 := by rw [f14, q_nc rfl, q_eq]
    have c6 : (6 : Int32).toInt = 6 := rfl
    have c2030 : (2030 : Int32).toInt = 2030 := rfl
    have bp : (2030 + 6 * x4).toInt = 2030 + 6 * (pp : Int) := by
      have em : (6 * x4).toInt = 6 * x4.toInt := by rw [i_mulx _ _ (by rw [c6]; omega), c6]
      rw [i_addx _ _ (by rw [em, c2030]; omega), em, c2030]
      omega
    rw [a22, dM, a8, ← hst.1, ← f4, row_p (j := 4) bp (by omega) 4 rfl (by decide)] at f17
    have tkE : TkRel n s12 t17 := by
      rw [f17]
      refine tk_f (L1 := 0) (L2 := 2 ^ 1) ?_ fr_r (fr_x 1 rfl) rfl (m_and rfl)
      rw [f14]
      exact tk_f (L1 := 0) (L2 := 2 ^ 1) (tk_f (L1 := 0) (L2 := 2 ^ 42) w.1 fr_r (fr_x 42 rfl) rfl (m_and rfl)) fr_r (fr_x 1 rfl) rfl (m_and rfl)
    -- the class's cells
    have d12 : ∀ c, c < 160 → ¬ c = 0 → ¬ c = 7 → s12.1 c = (pI s10 54 7 ((s.1 54 7) + 1)).1 c := fun c z1 z2 z3 => (wc c z1 z2 z3).1
    have d10 : ∀ c, ¬ c = 77 → s10.1 c = s6.1 c := fun c z => by rw [f10, pI_o _ _ _ _ _ z, f8, pI_o _ _ _ _ _ z]
    have dS : ∀ c, c < 160 → ¬ c = 0 → ¬ c = 7 → ¬ c = 54 → ¬ c = 77 → ¬ c = 72 → ¬ c = 9 → s12.1 c = s.1 c := fun c z1 z2 z3 z4 z5 z6 z7 => by
      rw [d12 c z1 z2 z3, pI_o _ _ _ _ _ z4, d10 c z5, f6, pI_o _ _ _ _ _ z6, pI_o _ _ _ _ _ z7]
    have dR : ∀ k, s12.1 72 k = if k = x then 129 else s.1 72 k := fun k => by
      rw [d12 72 (by decide) (by decide) (by decide), pI_o _ _ _ _ _ (by decide), d10 72 (by decide), f6, pI_1]
      by_cases z : k = x
      · rw [if_pos ⟨rfl, z⟩, if_pos z]
      · rw [if_neg (fun y => z y.2), if_neg z, pI_o _ _ _ _ _ (by decide)]
    have dP : ∀ k, s12.1 77 k = if k = pp then s.1 54 7 else if k = x then x4 else s.1 77 k := fun k => by
      rw [d12 77 (by decide) (by decide) (by decide), pI_o _ _ _ _ _ (by decide), f10, pI_1]
      by_cases z : k = pp
      · rw [if_pos ⟨rfl, z⟩, if_pos z]
      · rw [if_neg (fun y => z y.2), if_neg z, f8, pI_1]
        by_cases z2 : k = x
        · rw [if_pos ⟨rfl, z2⟩, if_pos z2]
        · rw [if_neg (fun y => z2 y.2), if_neg z2, f6, pI_o _ _ _ _ _ (by decide), pI_o _ _ _ _ _ (by decide)]
    have d54 : ∀ k, s12.1 54 k = if k = 7 then (s.1 54 7) + 1 else s.1 54 k := fun k => by
      rw [d12 54 (by decide) (by decide) (by decide), pI_1]
      by_cases z : k = 7
      · rw [if_pos ⟨rfl, z⟩, if_pos z]
      · rw [if_neg (fun y => z y.2), if_neg z, d10 54 (by decide), f6, pI_o _ _ _ _ _ (by decide), pI_o _ _ _ _ _ (by decide)]
    have D : DyR n 0 0 (x + 1) s12 t17 := by
      refine end_x (pv := x4) (vx := s.1 54 7) (pp := pp) h tkE hd hx f4 hpp q1 (fun c z1 z2 => dS c (by omega) (by omega) (by omega) (by omega) (by omega) (by omega) (by omega)) ?_ (fun c z1 z2 k hk => ?_) (by rw [dR, if_pos rfl]) dP ⟨by rw [d54, if_pos rfl], by rw [d54, if_neg (by decide)], by rw [d54, if_neg (by decide)]⟩ ?_ (dS 23 (by decide) (by decide) (by decide) (by decide) (by decide) (by decide) (by decide)) ?_ ?_ ⟨?_, ?_, ?_⟩ ?_ (fun p z1 z2 z3 => ?_) ?_ ?_ ?_
      · rw [(wc 28 (by decide) (by decide) (by decide)).2, f10, f8, f6]
        rfl
      · by_cases z : c = 72
        · subst z
          rw [dR, if_neg (by omega)]
        · rw [dS c (by omega) (by omega) (by omega) (by omega) (by omega) z (by omega)]
      · rw [d12 9 (by decide) (by decide) (by decide), pI_o _ _ _ _ _ (by decide), d10 9 (by decide), f6, pI_o _ _ _ _ _ (by decide), q_eq]
        exact ed
      · rw [f17, f14]
        show t11.2 2 = t.2 2
        rw [(wm 2 (by decide) (by decide)).2]
        show t'.2 2 = t.2 2
        rw [hz.2.1, f27]
        rfl
      · rw [f17, pI_o _ _ _ _ _ (by decide), a8]
      · rw [f17, q_nc rfl, f14, q_nc rfl, pI_1, if_neg (by decide), o0 18 (by omega) (by decide)]
      · rw [f17, q_nc rfl, a22]
        exact et22
      · rw [f17, q_nc rfl, f14, q_nc rfl, pI_1, if_neg (by decide), o23]
      · rw [f17, pI_1, if_neg (fun z => by have := z.2; omega), f14, pI_1, if_neg (fun z => by have := z.2; omega), pI_o _ _ _ _ _ (by decide), o1, q_eq, h31]
      · rw [f17, pI_1, if_neg (fun z => z3 z.2), f14, pI_1, if_neg (fun z => by have := z.2; omega), pI_o _ _ _ _ _ (by decide), o1, pI_1, if_neg (fun z => z1 z.2), hz.2.2 p (by omega), h27 p (by omega)]
      · rw [f17, pI_1, if_neg (fun z => by have := z.2; omega), f14, pI_1, if_neg (fun z => by have := z.2; omega), pI_o _ _ _ _ _ (by decide), o1, pI_1, if_neg (fun z => by have := z.2; omega), hz.2.2 _ (by omega), f27]
        exact q_eq
      · rw [f17, pI_1, if_neg (fun z => by have := z.2; omega), f14, q_eq]
      · rw [f17, q_eq, q1]
    have pS := pass_s D.1.1.1 D.1.1.2 59 (Or.inl rfl)
    refine rq_kC (rq_kM (rq_w pS (fun r s' r' t' g => ?_)))
    rcases g with ⟨z, z', w'⟩ | g
    · refine Or.inl ⟨z, z', (dy_st w' D).1, ?_⟩
      have := tk_pos D.1.1.1
      have := w'.2.2.2
      omega
    · exact Or.inr g
/-- all of a text: every part, and where it ends -/
theorem dloop {β : Type} {n : Nat} (hn : n ≤ 300) {kC : Int32 → Sg → Option (Int32 × Sg)} {R : Int32 → Sg → β → Sg → Prop} (F : Sg → Option (β × Sg)) (L : Nat → Int32 → Sg → Option (β × Sg)) (L0 : ∀ v t, L 0 v t = none) (L1 : ∀ m v t, L (m + 1) v t = if v = 0 then F t else if (t.1 0 12) = 0 then F t else bd (f_X12_dayStep t) (fun r s => L m r s)) (hS : ∀ x s t, DyR n 0 0 x s t → (t.1 0 22).toInt = 0 → RQ (kC 1 s) (F t) R) (hN : ∀ x s t, DyR n 0 0 x s t → ¬ (t.1 0 22).toInt = 0 → RQ (bd (bd (f_X7_wrong 2 s) (fun r s => if r = 0 then some ((0 : Int32), s) else some (1, s))) kC) (F t) R) (hF : ∀ s t, FtR s t → RQ (kC 0 s) (F t) R) (m : Nat) : ∀ (m' i x : Nat) (v1 v2 : Int32) (s t : Sg), v1.toInt = (i : Int) → ¬ v2 = 0 → (i : Int) ≤ (s.1 7 4).toInt → DyR n 0 0 x s t → RQ (bd (f_X1_takeText_b22 m v1 s) kC) (L m' v2 t) R := by
  induction m with
  | zero => intro m' i x v1 v2 s t _ _ _ _ a s' b t' y; cases y
  | succ m ih =>
    intro m' i x v1 v2 s t h1 h2 hi D
    cases m' with
    | zero => rw [L0]; exact rq_0
    | succ m' =>
      have hp := tk_pos D.1.1.1
      have e1 : (1 : Int32).toInt = 1 := rfl
      have c300 : (300 : Int32).toInt = 300 := rfl
      rw [L1]
      unfold f_X1_takeText_b22
      refine rc_i (fun c => ?_) (fun _ => ?_)
      · have := Int32.lt_iff_toInt_lt.mp c
        omega
      · refine rq_iM (fun z => absurd z h2) (fun _ => ?_)
        have kk : (s.1 7 3 = 0) ↔ (t.1 0 12 = 0) := by
          rcases knd_of D.1.1.1 with z | z | z | z | ⟨z, z' | z' | ⟨j, z', z''⟩⟩
          · exact ⟨fun _ => z.2, fun _ => z.1⟩
          · rw [z.1, z.2]; decide
          · rw [z.1, z.2.1]
          · have y := isS_t z.1
            rw [z.2.1]
            refine ⟨fun q => ?_, fun q => absurd q (by decide)⟩
            rw [q] at y
            exact absurd y (by decide)
          · rw [z, z']
          · rw [z, z']; decide
          · rw [z]
            refine ⟨fun q => ?_, fun q => absurd q (by decide)⟩
            rw [q] at z''
            have c0 : (0 : Int32).toInt = 0 := rfl
            omega
        refine rc_i (fun k0 => rq_iM (fun _ => ?_) (fun z => absurd (kk.mp k0) z)) (fun k0 => rq_iM (fun z => absurd (kk.mpr z) k0) (fun _ => ?_))
        · have q3 := D.2.1.1.2.2.1
          have c0 : (0 : Int32).toInt = 0 := rfl
          refine rc_i (fun z => ?_) (fun z => ?_)
          · refine rc_s (hS x s t D ?_)
            rw [z] at q3
            omega
          · exact hN x s t D (fun y => z (Int32.toInt_inj.mp (by omega)))
        · have lt := tk_lt D.1.1.1 k0
          have ea : (v1 + 1).toInt = v1.toInt + 1 := i_addx _ _ (by omega)
          have fin : ∀ (r : Int32) (s' : Sg) (r' : Int32) (t' : Sg), Og (StpT n x s) r s' r' t' → RQ (bd (if r = 0 then some ((0 : Int32), s') else f_X1_takeText_b22 m (v1 + 1) s') kC) (L m' r' t') R := fun r s' r' t' g => by
            rcases g with ⟨z, z', w, p⟩ | ⟨z, z', w⟩ <;> subst z <;> subst z'
            · exact rc_i (fun z => absurd z i10) (fun _ => ih m' (i + 1) (x + 1) (v1 + 1) 1 s' t' (by omega) i10 (by omega) w)
            · refine rc_i (fun _ => rc_s ?_) (fun z => absurd rfl z)
              cases m' with
              | zero => rw [L0]; exact rq_0
              | succ m' => rw [L1, if_pos rfl]; exact hF s' t' w
          refine rc_i (fun z => rc_b (rq_b2 (end_r D z) fin)) (fun z => rc_b (rq_b2 (step_r D z) fin))
