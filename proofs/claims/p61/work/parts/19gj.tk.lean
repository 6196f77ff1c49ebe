/-! days: the copy; all of days on both sides -/
def CpD (t0 : Sg) (j : Nat) (t : Sg) : Prop := (∀ c, ¬ c = 1 → t.1 c = t0.1 c) ∧ t.2 = t0.2 ∧ ∀ p, t.1 1 p = if 110 ≤ p ∧ p < j then t0.1 1 (1920 + p) else t0.1 1 p
theorem cpd_d (t0 : Sg) (h0 : t0.1 0 18 = 0) (m : Nat) : ∀ (j : Nat) (v3 : Int32) (t : Sg), v3.toInt = (j : Int) → 110 ≤ j → j ≤ 480 → CpD t0 j t → PQ (f_X12_days_b102 m v3 t) (fun r t9 => ∃ t', CpD t0 480 t' ∧ r = t'.1 0 23 ∧ t9 = pI (pI t' 0 16 (t'.1 0 18)) 0 2 0) := by
  induction m with
  | zero => intro j v3 t _ _ _ _ r t9 z; cases z
  | succ m ih =>
    intro j v3 t hv h1 h2 hc
    have c480 : (480 : Int32).toInt = 480 := rfl
    have c1920 : (1920 : Int32).toInt = 1920 := rfl
    have e1 : (1 : Int32).toInt = 1 := rfl
    unfold f_X12_days_b102
    refine pq_if (fun c => ?_) (fun c => ?_)
    · have c := i_le c
      have hj : j = 480 := by omega
      subst hj
      have z18 : t.1 0 18 = 0 := by rw [hc.1 0 (by decide), h0]
      refine pq_b (taken_p _ t) (fun r t9 g => pq_s ?_)
      rcases g with ⟨-, g1, g2⟩ | ⟨g, -⟩
      · exact ⟨t, hc, g1, g2⟩
      · rw [z18] at g
        exact absurd (by decide) g
    · have c := i_nle c
      refine pq_c (fun _ => pq_c (fun _ => pq_n (fun t2 e2 => ?_)))
      have cv : v3.toNatClampNeg = j := cl_h hv
      have cw : (1920 + v3).toNatClampNeg = 1920 + j := cl_h (by rw [i_addx _ _ (by omega)]; omega)
      rw [cv, cw] at e2
      refine ih (j + 1) (v3 + 1) t2 (by rw [i_addx _ _ (by omega)]; omega) (by omega) (by omega) ⟨fun c' hc' => by rw [e2, pI_o _ _ _ _ _ hc']; exact hc.1 c' hc', by rw [e2]; exact hc.2.1, fun p => ?_⟩
      rw [e2, pI_1]
      by_cases z : p = j
      · rw [if_pos ⟨rfl, z⟩, hc.2.2, if_neg (by omega), if_pos (by omega), z]
      · rw [if_neg (fun y => z y.2), hc.2.2]
        by_cases y : 110 ≤ p ∧ p < j
        · rw [if_pos y, if_pos (by omega)]
        · rw [if_neg y, if_neg (by omega)]
/-- the program that is in use, on both sides -/
def PrgR (s : Sg) (M : Nat → Int32) : Prop := (s.1 27 6 = 0 ∧ M 11 = -1) ∨ (s.1 27 6 = 1 ∧ ∃ X : Nat, (s.1 27 7 = M 11 ∧ (M 11).toInt = (X : Int) ∧ X ≤ 60) ∧ (∀ k : Nat, k < X → (RwR 24 110 s M k ∧ VdR 110 M k) ∧ ((s.1 45 k = 124 ∨ s.1 45 k = 128 ∨ s.1 45 k = 129) → s.1 50 k = M (110 + 6 * k + 4))) ∧ ∃ st : Nat → Int32, NsA (fun k => M (110 + 6 * k)) (fun k => M (110 + 6 * k + 4)) st 0 X)
def DayP (s t : Sg) : Prop := PlnR 24 s (t.1 1) ∧ NmsR 24 s (t.2 2) (t.1 1) ∧ PrgR s (t.1 1)
theorem cC_id (c k : Nat) (h0 : ¬ c = 0) (h7 : ¬ c = 7) (h9 : ¬ c = 9) (h52 : ¬ c = 52) (h54 : ¬ c = 54) : cC c k = c := by
  unfold cC
  rw [if_neg h0, if_neg h7, if_neg h52, if_neg h54, if_neg h9]
theorem day_of {n x : Nat} {s t s10 s14 t' : Sg} (h : DyR n 0 0 x s t) (hd : (t.1 0 22).toInt = 0) (es : ∀ c, ¬ c = 0 → s10.1 c = s.1 c) (es2 : s10.2 = s.2) (w : CpI 51 24 [(3, 9), (3, 8), (3, 7), (26, 60), (25, 60), (24, 60), (23, 60), (22, 60), (21, 60)] 0 s10 s14) (f : Fr cC 2216615575814144 s10 s14) (m : CpD (pI t 1 11 (t.1 1 1931)) 480 t') : DayP (pI s14 0 15 0) (pI (pI t' 0 16 (t'.1 0 18)) 0 2 0) := by
  obtain ⟨⟨⟨h1, h2⟩, h3, N, h4, h5⟩, ⟨⟨p1, p2, p3, p4⟩, ⟨p5, p6⟩, p7, p8⟩, ⟨h7, h9⟩, h8⟩ := h
  have hx : x ≤ 60 := by omega
  have eM : (pI (pI t' 0 16 (t'.1 0 18)) 0 2 0).1 1 = t'.1 1 := by rw [pI_o _ _ _ _ _ (by decide), pI_o _ _ _ _ _ (by decide)]
  have eN : (pI (pI t' 0 16 (t'.1 0 18)) 0 2 0).2 2 = t.2 2 := by
    show t'.2 2 = _
    rw [m.2.1]
    rfl
  have lo : ∀ p, p < 110 → ¬ p = 11 → t'.1 1 p = t.1 1 p := fun p y1 y2 => by
    rw [m.2.2, if_neg (by omega), pI_1, if_neg (fun z => y2 z.2)]
  have hi : ∀ p, 110 ≤ p → p < 480 → t'.1 1 p = t.1 1 (1920 + p) := fun p y1 y2 => by
    rw [m.2.2, if_pos ⟨y1, y2⟩, pI_1, if_neg (fun z => by have := z.2; omega)]
  have m11 : t'.1 1 11 = t.1 1 1931 := by rw [m.2.2, if_neg (by omega), q_eq]
  have kS : ∀ c, 25 ≤ c → c ≤ 44 → ¬ c = 27 → (pI s14 0 15 0).1 c = s.1 c ∧ (pI s14 0 15 0).2 c = s.2 c := fun c y1 y2 y3 => by
    have b : ∀ k, Nat.testBit 2216615575814144 (cC c k) = false := fun k => by
      rw [cC_id c k (by omega) (by omega) (by omega) (by omega) (by omega)]
      exact (show ∀ c, c < 45 → ¬ c = 27 → Nat.testBit 2216615575814144 c = false from by decide) c (by omega) y3
    refine ⟨?_, ?_⟩
    · rw [pI_o _ _ _ _ _ (by omega), ← es c (by omega)]
      exact funext fun k => (f c k (b k)).1
    · show s14.2 c = _
      rw [← es2]
      exact funext fun k => (f c k (b k)).2
  have cp : ∀ i k, 21 ≤ i → i ≤ 26 → k < 60 → (pI s14 0 15 0).1 (24 + i) k = s.1 (51 + i) k := fun i k y1 y2 y3 => by
    rw [pI_o _ _ _ _ _ (by omega), w.2.1 i k (by omega) (by omega) ?_ ?_, es _ (by omega)]
    · have : loW i = 0 := by
        unfold loW
        rw [if_neg (by omega), if_neg (by omega), if_neg (by omega)]
      omega
    · have : i = 21 ∨ i = 22 ∨ i = 23 ∨ i = 24 ∨ i = 25 ∨ i = 26 := by omega
      rcases this with z | z | z | z | z | z <;> subst z <;> exact y3
  have c27 : ∀ k, 6 ≤ k → k < 9 → (pI s14 0 15 0).1 27 k = s.1 54 k := fun k y1 y2 => by
    rw [pI_o _ _ _ _ _ (by decide), w.2.1 3 k (by decide) (by decide) y1 y2, es _ (by decide)]
  have pM : ∀ k, PlP k → t'.1 1 k = t.1 1 k := fun k hk => lo k (by
    rcases hk with z | z | z | z | ⟨q', z, z'⟩ | ⟨c', z, z'⟩ | ⟨g', z, z'⟩ <;> omega) (by
    rcases hk with z | z | z | z | ⟨q', z, z'⟩ | ⟨c', z, z'⟩ | ⟨g', z, z'⟩ <;> omega)
  unfold DayP
  rw [eM, eN]
  refine ⟨pln_g h3 (fun k _ _ => by rw [(kS 25 (by decide) (by decide) (by decide)).1]) (fun i k i1 i2 _ => by rw [(kS (24 + i) (by omega) (by omega) (by omega)).1]) pM, ⟨N, ?_, ?_⟩, Or.inr ⟨by rw [c27 6 (by decide) (by decide)]; exact p4, x, ⟨by rw [c27 7 (by decide) (by decide), m11]; exact p1, by rw [m11]; omega, hx⟩, fun k hkx => ?_, t.1 8, ?_⟩⟩
  · rw [(kS 25 (by decide) (by decide) (by decide)).1]; exact h4
  · have ecn : cnM (t'.1 1) = cnM (t.1 1) := by
      funext q
      unfold cnM
      by_cases z : q < 4
      · rw [if_pos z, if_pos z, pM q (plp_0 (Or.inl z))]
      · rw [if_neg z, if_neg z]
    rw [ecn, (kS 29 (by decide) (by decide) (by decide)).1, (kS 30 (by decide) (by decide) (by decide)).1]
    show NmR ((pI s14 0 15 0).2 28) _ _ _ _ _
    rw [(kS 28 (by decide) (by decide) (by decide)).2]
    exact h5
  · obtain ⟨⟨w1, w2⟩, w3⟩ := h8 k hkx
    have g : ∀ j, j < 6 → t'.1 1 (110 + 6 * k + j) = t.1 1 (2030 + 6 * k + j) := fun j hj => by
      rw [hi _ (by omega) (by omega)]
      exact congrArg (t.1 1) (by omega)
    refine ⟨⟨?_, ?_⟩, fun y => ?_⟩
    · unfold RwR at w1 ⊢
      rw [cp 21 k (by decide) (by decide) (by omega), cp 22 k (by decide) (by decide) (by omega), cp 23 k (by decide) (by decide) (by omega), cp 24 k (by decide) (by decide) (by omega), cp 25 k (by decide) (by decide) (by omega), show t'.1 1 (110 + 6 * k) = t.1 1 (2030 + 6 * k) from g 0 (by decide), g 1 (by decide), g 2 (by decide), g 3 (by decide), g 5 (by decide)]
      exact w1
    · unfold VdR at w2 ⊢
      rw [show t'.1 1 (110 + 6 * k) = t.1 1 (2030 + 6 * k) from g 0 (by decide), g 1 (by decide), g 2 (by decide), g 3 (by decide), pM 0 (plp_0 (by omega)), pM 1 (plp_0 (by omega)), pM 3 (plp_0 (by omega)), pM 9 (plp_0 (by omega))]
      exact w2
    · have e45 : (pI s14 0 15 0).1 45 k = s.1 72 k := cp 21 k (by decide) (by decide) (by omega)
      have e50 : (pI s14 0 15 0).1 50 k = s.1 77 k := cp 26 k (by decide) (by decide) (by omega)
      rw [e45] at y
      rw [e50, g 4 (by decide)]
      exact w3 y (fun d hd' => by omega)
  · have w := h9.2
    unfold NsR at w
    rw [hd] at w
    refine ns_e w (fun k hk => ⟨?_, ?_⟩)
    · show t'.1 1 (110 + 6 * k) = t.1 1 (2030 + 6 * k)
      rw [hi _ (by omega) (by omega)]
      exact congrArg (t.1 1) (by omega)
    · show t'.1 1 (110 + 6 * k + 4) = t.1 1 (2030 + 6 * k + 4)
      rw [hi _ (by omega) (by omega)]
      exact congrArg (t.1 1) (by omega)
def FlR (s t : Sg) : Prop := s.1 0 18 = t.1 0 16 ∧ s.1 0 19 = t.1 0 17
def DyPo (r : Int32) (s : Sg) (r' : Int32) (t : Sg) : Prop := r = r' ∧ s.1 0 15 = t.1 0 2 ∧ (s.1 0 15 = 0 → DayP s t) ∧ (s.1 0 15 = 9 → FlR s t)
def kCd : Int32 → Sg → Option (Int32 × Sg) := fun r7 s8 => bd (f_X11_closeText s8) (fun _ s10 => if r7 = 0 then bd (f_X11_refuse 9 s10) (fun r11 s12 => some (r11, s12)) else bd (f_X5_copyFrom_54 s10) (fun _ s14 => bd (f_X11_answer (s14.1 27 8) s14) (fun r15 s16 => some (r15, s16))))
theorem hF_77 (s t : Sg) (h : FtR s t) : RQ (kCd 0 s) (f_X12_days_b77 t) DyPo := by
  have h0 : ¬ t.1 0 18 = 0 := fun z => by
    have h3 := h.2.2
    rw [z] at h3
    exact absurd h3 (by decide)
  unfold kCd f_X12_days_b77
  refine rq_bC (ct_x s) (fun _ s10 e => rq_iC (fun _ => rq_iM (fun z => absurd z h0) (fun _ => ?_)) (fun z => absurd rfl z))
  have p : RQ (some ((-1 : Int32), pI s10 0 15 9)) (bd (f_X12_taken (t.1 0 23) t) (fun r t => some (r, t))) DyPo := by
    refine rq_bM (taken_p _ t) (fun r t2 g => rq_s ?_)
    rcases g with ⟨g, -⟩ | ⟨-, g1, g2⟩
    · exact absurd h.2.2 (by omega)
    · refine ⟨g1.symm, by rw [g2, q_eq, q_eq], fun z => absurd z (by rw [q_eq]; decide), fun _ => ⟨?_, ?_⟩⟩
      · rw [g2, q_ne rfl, q_ne rfl, q_eq, e, q_ne rfl, q_eq]
        exact h.1
      · rw [g2, q_ne rfl, q_ne rfl, q_ne rfl, e, q_eq]
        exact h.2.1
  exact p
theorem hF_57 (s t : Sg) (h : FtR s t) : RQ (kCd 0 s) (f_X12_days_b57 t) DyPo := by
  have h0 : ¬ t.1 0 18 = 0 := fun z => by
    have h3 := h.2.2
    rw [z] at h3
    exact absurd h3 (by decide)
  unfold f_X12_days_b57
  exact rq_iM (fun z => absurd z h0) (fun _ => hF_77 s t h)
theorem hN_57 {n x : Nat} (s t : Sg) (h : DyR n 0 0 x s t) (hd : ¬ (t.1 0 22).toInt = 0) : RQ (bd (bd (f_X7_wrong 2 s) (fun r s => if r = 0 then some ((0 : Int32), s) else some (1, s))) kCd) (f_X12_days_b57 t) DyPo := by
  have c0 : (0 : Int32).toInt = 0 := rfl
  have hd0 := h.2.1.2.2.2.1
  unfold f_X12_days_b57
  refine rq_iM (fun _ => rq_iM (fun z => absurd (i_le z) (by omega)) (fun _ => ?_)) (fun z => absurd h.1.1.2 z)
  refine rc_b (rq_b2 (fails_r h.1.1.1 h.1.1.2 2 (by decide)) (fun r1 s1 r2 t1 g => ?_))
  rw [g.1]
  exact rc_i (fun _ => rc_s (hF_77 s1 t1 g.2.2)) (fun z => absurd rfl z)
theorem hS_57 {n x : Nat} (s t : Sg) (h : DyR n 0 0 x s t) (hd : (t.1 0 22).toInt = 0) : RQ (kCd 1 s) (f_X12_days_b57 t) DyPo := by
  have c0 : (0 : Int32).toInt = 0 := rfl
  unfold kCd f_X12_days_b57
  refine rq_bC (ct_x s) (fun _ s10 e => rq_iC (fun z => absurd z i10) (fun _ => rq_bC (pq_and (cq_X5_copyFrom_54 (cpi_0 51 24 s10)) (ft_X5_copyFrom_54 s10)) (fun _ s14 w => ?_)))
  refine rq_iM (fun _ => rq_iM (fun _ => ?_) (fun z => absurd (Int32.le_iff_toInt_le.mpr (by omega)) z)) (fun z => absurd h.1.1.2 z)
  unfold f_X12_days_b77
  refine rq_iM (fun _ => ?_) (fun z => absurd h.1.1.2 z)
  have z18 : (pI t 1 11 (t.1 1 1931)).1 0 18 = 0 := m18_d h.1.1.2
  have es : ∀ c, ¬ c = 0 → s10.1 c = s.1 c := fun c hc => by rw [e, pI_o _ _ _ _ _ hc, pI_o _ _ _ _ _ hc, pI_o _ _ _ _ _ hc]
  have p : RQ (some (s14.1 27 8, pI s14 0 15 0)) (f_X12_days_b102 BIG 110 (pI t 1 11 (t.1 1 1931))) DyPo := by
    refine rq_pp (P := fun r s => r = s14.1 27 8 ∧ s = pI s14 0 15 0) (pq_s ⟨rfl, rfl⟩) (cpd_d _ z18 BIG 110 110 _ rfl (by decide) (by decide) ⟨fun _ _ => rfl, rfl, fun p => by rw [if_neg (by omega)]⟩) (fun r s2 r' t2 q y => ?_)
    obtain ⟨t', m, y1, y2⟩ := y
    have a : s14.1 27 8 = s.1 54 8 := by rw [w.1.2.1 3 8 (by decide) (by decide) (by decide) (by decide), es _ (by decide)]
    have b : t'.1 0 23 = t.1 0 23 := by rw [m.1 0 (by decide), q_nc rfl]
    refine ⟨by rw [q.1, y1, a, b]; exact h.2.1.1.2.1, by rw [q.2, y2, q_eq, q_eq], fun _ => ?_, fun z => absurd z (by rw [q.2, q_eq]; decide)⟩
    rw [q.2, y2]
    exact day_of h hd es (by rw [e]; rfl) w.1 w.2 m
  exact p
theorem days_f {sC sM : Sg} (a1 : Int32) (e10 : sC.1 0 13 = sM.1 0 10) (hc : 0 ≤ (sM.1 0 10).toInt ∧ (sM.1 0 10).toInt ≤ 900) (tb : TapB sC sM) (hP : PlnR 24 sC (sM.1 1)) (hN : NmsR 24 sC (sM.2 2) (sM.1 1)) : RQ (f_X11_days a1 sC) (f_X12_days a1 sM) DyPo := by
  have e0 : (0 : Int32).toInt = 0 := rfl
  have e900 : (900 : Int32).toInt = 900 := rfl
  have e300 : (300 : Int32).toInt = 300 := rfl
  unfold f_X11_days f_X12_days f_X12_begins
  refine rq_bC (wi_p a1 0 (sC.1 0 13) sC) (fun r1 s2 g => ?_)
  obtain ⟨es, g⟩ := g
  subst es
  rw [e10] at g
  have out : RQ (bd (f_X11_refuse 1 s2) (fun r s => some (r, s))) (bd (f_X12_refuse 1 sM) (fun r t => some (r, t))) DyPo := (rq_s ⟨rfl, by rw [q_eq, q_eq], fun z => absurd z (by rw [q_eq]; decide), fun z => absurd z (by rw [q_eq]; decide)⟩ : RQ (some ((-1 : Int32), pI s2 0 15 1)) (some ((-1 : Int32), pI sM 0 2 1)) DyPo)
  rcases g with ⟨z, g1, g2⟩ | ⟨z, g⟩ <;> subst z
  · rw [if_neg i10]
    refine rm_i (fun c => absurd (i_lt c) (by omega)) (fun _ => rm_i (fun c => absurd (i_lt c) (by omega)) (fun _ => rm_i (fun c3 => rq_iC (fun _ => ?_) (fun z => absurd c3 z)) (fun c3 => rq_iC (fun z => absurd z c3) (fun _ => rm_s (rq_iM (fun _ => out) (fun z => absurd rfl z))))))
    have c3 := i_le c3
    unfold f_X7_begin
    refine rc_n (fun s1 e1 => rc_n (fun s3 e3 => rc_b ?_))
    have hn : a1.toInt = (a1.toInt.toNat : Int) := by omega
    have c1 : ∀ c, ¬ c = 7 → s3.1 c = s2.1 c := fun c hc => by rw [e3, pI_o _ _ _ _ _ hc, pI_o _ _ _ _ _ hc, pI_o _ _ _ _ _ hc, e1, pI_o _ _ _ _ _ hc]
    have d1 : s3.2 = s2.2 := by rw [e3, e1]; rfl
    have c71 : s3.1 7 1 = a1 := by
      rw [e3, q_ne rfl, q_ne rfl, q_ne rfl, e1, q_eq, if_neg (fun z => by have := i_lt z; omega)]
    have c72 : s3.1 7 2 = 0 := by rw [e3, q_ne rfl, q_ne rfl, q_eq]
    refine beg_r hn ⟨rfl, by rw [c71]; exact hn, by omega⟩ c72 sM (fun i hi => ?_) (fun s t tk z18 fC kM k2 z17 => ?_) BIG 0 0 _ rfl (Nat.zero_le _) (fun k hk => absurd hk (Nat.not_lt_zero _)) (by rw [q_eq]; exact hn) (fun c y1 _ => pI_o _ _ _ _ _ y1) rfl
    · rw [c1 1 (by decide)]
      exact tb i (by omega)
    · refine rc_s ?_
      unfold f_X1_takeText f_X5_clear_54
      refine rq_iM (fun z => absurd z i10) (fun _ => rq_nM (fun t5 f5 => rc_b (rc_n (fun s4 f4 => rc_s ?_))))
      have kS : ∀ c, 25 ≤ c → c ≤ 39 → s.1 c = s2.1 c ∧ s.2 c = s2.2 c := fun c y1 y2 => by
        have b : ∀ k, LTC.testBit (cC c k) = false := fun k => by
          rw [cC_id c k (by omega) (by omega) (by omega) (by omega) (by omega)]
          exact (show ∀ c, c < 160 → LTC.testBit c = false from by decide +kernel) c (by omega)
        refine ⟨?_, ?_⟩
        · rw [← c1 c (by omega)]
          exact funext fun k => (fC c k (b k)).1
        · rw [← d1]
          exact funext fun k => (fC c k (b k)).2
      have q25 : ∀ c, 25 ≤ c → c ≤ 39 → (pI (pI s4 54 6 1) 9 4 0).1 c = s2.1 c := fun c y1 y2 => by
        rw [pI_o _ _ _ _ _ (by omega), pI_o _ _ _ _ _ (by omega), f4, pI_o _ _ _ _ _ (by omega), pI_o _ _ _ _ _ (by omega), pI_o _ _ _ _ _ (by omega), (kS c y1 y2).1]
      have q28 : (pI (pI s4 54 6 1) 9 4 0).2 28 = s2.2 28 := by
        show s4.2 28 = _
        rw [f4]
        exact (kS 28 (by decide) (by decide)).2
      have mm : ∀ p, t5.1 1 p = if p = 1931 then 0 else sM.1 1 p := fun p => by
        rw [f5, pI_o _ _ _ _ _ (by decide), pI_o _ _ _ _ _ (by decide), pI_1, kM 1 (by decide) (by decide) (by decide)]
        by_cases z : p = 1931
        · rw [if_pos ⟨rfl, z⟩, if_pos z]
        · rw [if_neg (fun y => z y.2), if_neg z]
      have pM : ∀ k, PlP k → t5.1 1 k = sM.1 1 k := fun k hk => by
        rw [mm, if_neg ?_]
        rcases hk with z | z | z | z | ⟨q', z, z'⟩ | ⟨c', z, z'⟩ | ⟨g', z, z'⟩ <;> omega
      have t4 : TkRel a1.toInt.toNat s4 t := by
        rw [f4]
        exact tk_f (L1 := 2 ^ 220) (L2 := 0) (tk_f (L1 := 2 ^ 219) (L2 := 0) (tk_f (L1 := 2 ^ 218) (L2 := 0) tk (fr_x 218 rfl) fr_r (m_and rfl) rfl) (fr_x 219 rfl) fr_r (m_and rfl) rfl) (fr_x 220 rfl) fr_r (m_and rfl) rfl
      have t6 : TkRel a1.toInt.toNat (pI (pI s4 54 6 1) 9 4 0) t := tk_f (L1 := 2 ^ 228) (L2 := 0) (tk_f (L1 := 2 ^ 218) (L2 := 0) t4 (fr_x 218 rfl) fr_r (m_and rfl) rfl) (fr_x 228 rfl) fr_r (m_and rfl) rfl
      have t7 : TkRel a1.toInt.toNat (pI (pI s4 54 6 1) 9 4 0) t5 := by
        rw [f5]
        exact tk_f (L1 := 0) (L2 := 2 ^ 43) (tk_f (L1 := 0) (L2 := 2 ^ 42) (tk_f (L1 := 0) (L2 := 2 ^ 1) t6 fr_r (fr_x 1 rfl) rfl (m_and rfl)) fr_r (fr_x 42 rfl) rfl (m_and rfl)) fr_r (fr_x 43 rfl) rfl (m_and rfl)
      have o22 : t5.1 0 22 = 0 := by rw [f5, pI_1, if_neg (by decide), q_eq]
      have o23 : t5.1 0 23 = 0 := by rw [f5, q_eq]
      have o18 : t5.1 0 18 = 0 := by rw [f5, pI_1, if_neg (by decide), pI_1, if_neg (by decide), pI_o _ _ _ _ _ (by decide), z18]
      have o31 : t5.1 1 1931 = 0 := by rw [mm, if_pos rfl]
      have D : DyR a1.toInt.toNat 0 0 0 (pI (pI s4 54 6 1) 9 4 0) t5 := by
        obtain ⟨N, h4, h5⟩ := hN
        refine ⟨⟨⟨t7, o18⟩, pln_g hP (fun k _ _ => by rw [q25 25 (by decide) (by decide)]) (fun i k i1 i2 _ => by rw [q25 (24 + i) (by omega) (by omega)]) pM, N, ?_, ?_⟩, ⟨⟨?_, ?_, ?_, ?_⟩, ⟨by rw [o31]; decide, by rw [o31, o22, o23]; decide⟩, by rw [o23]; decide, by rw [o22]; decide⟩, ⟨fun d hd => ?_, fun hd => absurd hd (by decide), ?_⟩, fun k hk => absurd hk (Nat.not_lt_zero _)⟩
        · rw [q25 25 (by decide) (by decide)]; exact h4
        · have ecn : cnM (t5.1 1) = cnM (sM.1 1) := by
            funext q
            unfold cnM
            by_cases z : q < 4
            · rw [if_pos z, if_pos z, pM q (plp_0 (Or.inl z))]
            · rw [if_neg z, if_neg z]
          have e2 : t5.2 2 = sM.2 2 := by
            rw [f5]
            exact k2 2 (by decide) (by decide)
          rw [ecn, e2, q25 29 (by decide) (by decide), q25 30 (by decide) (by decide)]
          show NmR ((pI (pI s4 54 6 1) 9 4 0).2 28) _ _ _ _ _
          rw [q28]
          exact h5
        · rw [o31, pI_o _ _ _ _ _ (by decide), pI_1, if_neg (by decide), f4, pI_1, if_neg (by decide), q_eq]
        · rw [o23, pI_o _ _ _ _ _ (by decide), pI_1, if_neg (by decide), f4, q_eq]
        · rw [o22, q_eq]
          decide
        · rw [pI_o _ _ _ _ _ (by decide), q_eq]
        · rw [o22] at hd
          exact absurd hd (by omega)
        · unfold NsR
          rw [o22]
          exact ⟨fun i j _ z => absurd z (by omega), fun k hk => absurd hk (Nat.not_lt_zero _), fun d z => absurd z (by omega), fun k hk => absurd hk (Nat.not_lt_zero _), fun p q _ hq => absurd hq (Nat.not_lt_zero _)⟩
      have pos := tk_pos t7
      exact dloop (kC := kCd) (by omega) f_X12_days_b57 f_X12_days_b38 (fun _ _ => rfl) (fun _ _ _ => rfl) (fun x s t h y => hS_57 s t h y) (fun x s t h y => hN_57 s t h y) hF_57 BIG BIG 0 0 0 1 _ _ rfl i10 pos.2.1 D
  · rw [if_pos rfl]
    by_cases c1 : a1 < 0
    · refine rm_i (fun _ => rm_s (rq_iM (fun _ => out) (fun z => absurd rfl z))) (fun z => absurd c1 z)
    · have c1' := i_nlt c1
      refine rm_i (fun z => absurd z c1) (fun _ => rm_i (fun _ => rm_s (rq_iM (fun _ => out) (fun z => absurd rfl z))) (fun z => ?_))
      have z := i_nlt z
      exact absurd ⟨c1', z⟩ g
