/-! texts: what may be told but once -/
abbrev LT8W : Nat := 411376139330301510538742295639337626245683966408394965837152512
abbrev LT8C : Nat := 822752278660603021077484591278675252491367932816789931674304768
theorem sr_st {n : Nat} {sC sM s t : Sg} (w : StT n sC sM s t) (h : SR n sC sM) : SR n s t := by
  have kp := kp_of w
  exact ⟨kp_sb w h.1, kp_pl kp h.2.1, kp_gr kp h.2.2.1, kp_nm kp h.2.2.2⟩
theorem told_c {sC sM : Sg} (h : ToldS sC sM) : (sC.1 8 3 = 0 ∧ sC.1 8 4 = 0 ∧ sM.1 0 20 = 0) ∨ (sC.1 8 3 = 1 ∧ sC.1 8 4 = 0 ∧ sM.1 0 20 = 1) ∨ (sC.1 8 3 = 0 ∧ sC.1 8 4 = 1 ∧ sM.1 0 20 = 2) ∨ (sC.1 8 3 = 1 ∧ sC.1 8 4 = 1 ∧ sM.1 0 20 = 3) := by
  obtain ⟨h, a, b⟩ := h
  have e0 : (0 : Int32).toInt = 0 := rfl
  have e1 : (1 : Int32).toInt = 1 := rfl
  rcases a with a | a <;> rcases b with b | b <;> rw [a, b] at h
  · exact Or.inl ⟨a, b, Int32.toInt_inj.mp (by rw [h]; rfl)⟩
  · exact Or.inr (Or.inr (Or.inl ⟨a, b, Int32.toInt_inj.mp (by rw [h]; rfl)⟩))
  · exact Or.inr (Or.inl ⟨a, b, Int32.toInt_inj.mp (by rw [h]; rfl)⟩)
  · exact Or.inr (Or.inr (Or.inr ⟨a, b, Int32.toInt_inj.mp (by rw [h]; rfl)⟩))
/-- the relation, where what the plan tells of rain and of the gone has changed -/
theorem sr_x {n : Nat} {s t s' t' : Sg} (h : SR n s t) (tk : TkRel n s' t') (kc : ∀ c, c ∈ [53, 56, 57, 58, 59, 60, 61, 62, 63, 64, 65, 66, 67, 68, 69, 70, 71] → s'.1 c = s.1 c) (k52 : ∀ k, ¬ k = 18 → ¬ k = 19 → s'.1 52 k = s.1 52 k) (k55 : s'.2 55 = s.2 55) (m2 : t'.2 2 = t.2 2) (m18 : t'.1 0 18 = t.1 0 18) (mM : ∀ k, ¬ k = 13 → ¬ k = 14 → mN t' k = mN t k) (to : ToldS s' t') (ew : s'.1 52 18 = mN t' 13) (eg : s'.1 52 19 = mN t' 14) : SR n s' t' := by
  obtain ⟨h1, h2, h3, h4⟩ := h
  have c0 : cnN t' = cnN t := cn_e (fun k hk => mM k (by omega) (by omega))
  have n0 : nmN t' = nmN t := by unfold nmN; rw [m2]
  refine ⟨⟨tk, m18.trans h1.2.1, to⟩, ?_, ?_, ?_⟩
  · unfold PlanS
    rw [kc 58 (by decide), kc 59 (by decide), kc 60 (by decide), kc 61 (by decide), kc 62 (by decide), kc 63 (by decide), kc 64 (by decide), kc 65 (by decide), kc 66 (by decide)]
    exact plan_x h2 (fun k k1 k2 => k52 k (by omega) (by omega)) (fun k hk => mM k (by omega) (by omega)) ⟨by rw [k52 17 (by decide) (by decide), mM 9 (by decide) (by decide)]; exact h2.2.2.1.1, ew, eg⟩ (fun q _ => ⟨⟨rfl, rfl, rfl⟩, mM _ (by omega) (by omega), mM _ (by omega) (by omega), mM _ (by omega) (by omega)⟩) (fun _ _ => rfl) (fun c _ => ⟨⟨rfl, rfl, rfl⟩, mM _ (by omega) (by omega), mM _ (by omega) (by omega), mM _ (by omega) (by omega)⟩) (fun g _ => ⟨⟨rfl, rfl⟩, mM _ (by omega) (by omega), mM _ (by omega) (by omega)⟩)
  · unfold GrS
    rw [kc 67 (by decide), kc 68 (by decide), kc 69 (by decide), kc 70 (by decide), kc 71 (by decide), kc 53 (by decide)]
    exact gr_x h3 (fun h hh => ⟨by rw [mM _ (by omega) (by omega)]; exact (h3.1 h hh).1, by rw [mM _ (by omega) (by omega)]; exact (h3.1 h hh).2.1, rfl, mM _ (by omega) (by omega)⟩) (fun g hg => by rw [mM _ (by omega) (by omega)]; exact h3.2.1 g hg) (fun q _ => ⟨rfl, mM _ (by omega) (by omega), mM _ (by omega) (by omega)⟩) (fun _ _ _ => rfl) (fun k k1 k2 k3 => mM k (by omega) (by omega)) ⟨mM 3 (by decide) (by decide), fun g _ _ => mM _ (by omega) (by omega)⟩
  · unfold NmS
    rw [n0, c0, kc 56 (by decide), kc 57 (by decide), k52 12 (by decide) (by decide), k55]
    exact h4
theorem og_b {H G : Sg → Sg → Prop} {r : Int32} {s : Sg} {r' : Int32} {t : Sg} {A : Option (Int32 × Sg)} {K : Int32 → Sg → Option (Int32 × Sg)} (hK : K0 K) (g : Og H r s r' t) (no : H s t → False) : RQ (if r = 0 then some (0, s) else A) (K r' t) (Og G) := by
  rcases g with ⟨e, e', g⟩ | ⟨e, e', g⟩
  · exact absurd g no
  · subst e; subst e'
    rw [if_pos rfl, hK t]
    exact rq_s (Or.inr ⟨rfl, rfl, g⟩)
theorem washes_r {n : Nat} {sC sM : Sg} (h : SR n sC sM) : RQ (f_X6_takeWashes sC) (bd (f_X12_once 17 sM) (fun r s => f_X12_streetPart_b102 r s)) (Og (PaT n sC sM)) := by
  unfold f_X6_takeWashes f_X12_once
  have q0 := tk_pos h.1.1
  refine rm_b (rq_b2 (adv_s h.1.1) (fun _ s2 _ t2 w => ?_))
  have h2 := sr_st w h
  have q1 := w.2.2.2
  have q2 := tk_pos h2.1.1
  have hc : (sC.1 7 2).toInt ≤ (s2.1 7 4).toInt := q1
  clear w
  refine rm_b (rq_bM (word_r h2.1.1) (fun r3 t4 g => ?_))
  obtain ⟨es, g, -⟩ := g
  subst es
  have e := kws_eq g (i := 17) (by decide) (c := 117) (p := 17) rfl rfl
  have tc := told_c h2.1.2.2
  refine rq_iC (fun c => rm_i (fun d => ?_) (fun d => absurd (e.mp c) d)) (fun c => rm_i (fun d => absurd (e.mpr d) c) (fun d => ?_))
  · have ff : ∀ {H : Sg → Sg → Prop}, RQ (bd (f_X7_wrong 5 s2) (fun r s => ck (r = 0 ∨ r = 1) (some (r, s)))) (bd (bd (f_X12_fails 5 t4) (fun r t => ck (r = 0 ∨ r = 1) (some (r, t)))) (fun r s => f_X12_streetPart_b102 r s)) (Og H) := og_fk sg_K0 h2.1.1 h2.1.2.1 5 (by decide)
    refine rq_iC (fun c3 => rm_i (fun b => ?_) (fun b => ?_)) (fun c3 => rm_i (fun b => ff) (fun b => ?_))
    · exfalso
      rcases tc with z | z | z | z
      · rw [z.2.2] at b
        exact absurd b (by decide)
      · exact absurd (z.1.symm.trans c3) (by decide)
      · rw [z.2.2] at b
        exact absurd b (by decide)
      · exact absurd (z.1.symm.trans c3) (by decide)
    · unfold f_X6_takeWashes_b35 f_X7_pass
      refine rc_i (fun _ => ?_) (fun z => absurd c z)
      refine rm_n (fun t7 e7 => rc_b (rm_b ?_))
      have tk7 : TkRel n s2 t7 := by
        rw [e7]
        exact tk_f (L1 := 0) (L2 := 2 ^ 40) h2.1.1 fr_r (fr_x 40 rfl) rfl (m_and rfl)
      refine rq_b2 (adv_s tk7) (fun _ s5 _ t9 w => rc_s (rq_iC (fun z => absurd z i10) (fun _ => rm_i (fun _ => ?_) (fun z => absurd rfl z))))
      have z18 : t9.1 0 18 = 0 := by
        rw [(kp_of w).2.2.2.2, e7, q_ne rfl]
        exact h2.1.2.1
      have q3 := w.2.2.2
      have q4 := tk_pos w.1
      refine rm_b (rq_b2 (num_r w.1 z18 0 99 1933 1933 rfl) (fun u s6 u' t11 w3 => ?_))
      rcases w3 with ⟨z, z', w3⟩ | ⟨z, z', w3⟩ <;> subst z <;> subst z'
      · refine rq_iC (fun z => absurd z i10) (fun _ => rm_c (fun _ => rm_s (rq_nC (fun s7 e8 => ?_))))
        obtain ⟨z1, z2, z3, z4, z5, z6⟩ := w3
        have kp := kp_of w
        obtain ⟨⟨a1, a2, a3, a4, a5, a6, a7, a8, a9, a10, a11, a12⟩, a13, a14, a15, a16, a17, a18, a19, a20⟩ := kp.1
        obtain ⟨⟨b1, b2, b3, b4, b5, b6, b7, b8, b9, b10, b11, b12⟩, b13, b14, b15, b16, b17, b18, b19, b20⟩ := kc_of z2
        have ek : ∀ c, ¬ c = 8 → ¬ c = 52 → s7.1 c = s6.1 c := fun c y1 y2 => funext fun k => by
          rw [e8, pI_1, if_neg (fun y => y2 y.1), pI_1, if_neg (fun y => y1 y.1)]
        have tM : ∀ k, ¬ k = 13 → mN t11 k = mN t4 k := fun k hk => by
          show t11.1 1 (1920 + k) = t4.1 1 (1920 + k)
          rw [z6, if_neg (by omega), kp.2.1, e7, q_nc rfl]
        have fin : SR n s7 t11 := by
          refine sr_x h2 ?_ (fun c hc => ?_) (fun k k1 k2 => ?_) ?_ ?_ ?_ (fun k k1 k2 => tM k k1) ?_ ?_ ?_
          · rw [e8]
            exact tk_f (L1 := LT8W) (L2 := 0) z1 (fr_i (fr_i fr_r 8 rfl rfl) 208 rfl rfl) fr_r rfl rfl
          · have y1 : ¬ c = 8 := fun y => by rw [y] at hc; exact absurd hc (by decide)
            have y2 : ¬ c = 52 := fun y => by rw [y] at hc; exact absurd hc (by decide)
            rw [ek c y1 y2]
            simp only [List.mem_cons, List.not_mem_nil, or_false] at hc
            rcases hc with y | y | y | y | y | y | y | y | y | y | y | y | y | y | y | y | y <;> subst y
            · exact b2.trans a2
            · exact b4.trans a4
            · exact b5.trans a5
            · exact b6.trans a6
            · exact b7.trans a7
            · exact b8.trans a8
            · exact b9.trans a9
            · exact b10.trans a10
            · exact b11.trans a11
            · exact b12.trans a12
            · exact b13.trans a13
            · exact b14.trans a14
            · exact b15.trans a15
            · exact b16.trans a16
            · exact b17.trans a17
            · exact b18.trans a18
            · exact b19.trans a19
          · rw [e8, pI_1, if_neg (fun y => k1 y.2), q_nc rfl, b1, a1]
          · rw [e8]
            exact b3.trans a3
          · have y1 : t11.2 2 = t9.2 2 := funext fun k => fr_e2 z3 2 k 2 rfl rfl
            rw [y1, kp.2.2.1, e7]
            rfl
          · rw [fr_e z3 0 18 38 rfl rfl, z18]
            exact h2.1.2.1.symm
          · have y3 : s7.1 8 3 = 1 := by rw [e8, q_nc rfl, q_eq]
            have y4 : s7.1 8 4 = s2.1 8 4 := by rw [e8, q_nc rfl, q_ne rfl, b20, a20]
            have y20 : t11.1 0 20 = (t4.1 0 20) ||| ((1 : Int32) <<< ((17 - 17) &&& 31)) := by
              rw [fr_e z3 0 20 40 rfl rfl, kp.2.2.2.1, e7, q_eq]
            unfold ToldS
            rw [y3, y4, y20]
            rcases tc with z | z | z | z
            · rw [z.2.1, z.2.2]
              exact ⟨by decide, Or.inr rfl, Or.inl rfl⟩
            · exact absurd (z.1.symm.trans c3) (by decide)
            · rw [z.2.1, z.2.2]
              exact ⟨by decide, Or.inr rfl, Or.inr rfl⟩
            · exact absurd (z.1.symm.trans c3) (by decide)
          · show _ = t11.1 1 1933
            rw [e8, q_eq, q_nc rfl, z6, if_pos rfl]
          · rw [e8, q_ne rfl, q_nc rfl, tM 14 (by decide), b1, a1]
            exact h2.2.1.2.2.1.2.2
        refine semi_r fin ?_
        rw [e8, q_nc rfl, q_nc rfl]
        omega
      · refine rq_iC (fun _ => rm_c (fun _ => rm_s ?_)) (fun z => absurd rfl z)
        show RQ _ (f_X12_streetPart_b102 0 t11) _
        rw [sg_K0 t11]
        exact rq_s (Or.inr ⟨rfl, rfl, w3⟩)
    · exfalso
      rcases tc with z | z | z | z
      · exact c3 z.1
      · rw [z.2.2] at b
        exact b (by decide)
      · exact c3 z.1
      · rw [z.2.2] at b
        exact b (by decide)
  · unfold f_X6_takeWashes_b35 f_X7_pass
    refine rc_i (fun z => absurd z c) (fun _ => ?_)
    exact rq_b2 (og_f (H := fun _ _ => False) h2.1.1 h2.1.2.1 2 (by decide)) (fun r s r' t g => og_b sg_K0 g (fun z => z))
theorem semi2_r {n : Nat} {sC sM s0 : Sg} (h : SR n sC sM) (hp : (s0.1 7 2).toInt ≤ (sC.1 7 4).toInt) : RQ (bd (f_X7_pass 59 sC) (fun r s => if r = 0 then some (0, s) else some (1, s))) (f_X12_streetPart_b102 1 sM) (Og (PaT n s0 sM)) := by
  have w := semi_r (s0 := s0) h hp
  intro a s b t e1 e2
  refine w a s b t ?_ e2
  cases hq : f_X7_pass 59 sC with
  | none => rw [hq] at e1; cases e1
  | some q =>
    rw [hq] at e1
    obtain ⟨r, s3⟩ := q
    have e1 : (if r = 0 then some ((0 : Int32), s3) else some (1, s3)) = some (a, s) := e1
    show ck (r = 0 ∨ r = 1) (some (r, s3)) = some (a, s)
    have hr : r = 0 ∨ r = 1 := by
      have hpp := pass_s h.1.1 h.1.2.1 59 (Or.inl rfl)
      cases hw : f_X12_wantSign 59 sM with
      | none =>
        unfold f_X12_streetPart_b102 at e2
        rw [if_neg (show ¬ (1 : Int32) = 0 by decide), hw] at e2
        cases e2
      | some y =>
        rcases hpp r s3 y.1 y.2 hq hw with z | z
        · exact Or.inr z.1
        · exact Or.inl z.1
    rw [← e1]
    unfold ck
    rw [if_pos hr]
    rcases hr with z | z <;> subst z
    · rw [if_pos rfl]
    · rw [if_neg i10]
theorem counts_r {n : Nat} {sC sM : Sg} (h : SR n sC sM) : RQ (f_X6_takeCounts sC) (bd (f_X12_once 18 sM) (fun r s => f_X12_streetPart_b102 r s)) (Og (PaT n sC sM)) := by
  unfold f_X6_takeCounts f_X12_once
  have q0 := tk_pos h.1.1
  refine rm_b (rq_b2 (adv_s h.1.1) (fun _ s2 _ t2 w => ?_))
  have h2 := sr_st w h
  have q1 := w.2.2.2
  have q2 := tk_pos h2.1.1
  have hc : (sC.1 7 2).toInt ≤ (s2.1 7 4).toInt := q1
  clear w
  refine rm_b (rq_bM (word_r h2.1.1) (fun r3 t4 g => ?_))
  obtain ⟨es, g, -⟩ := g
  subst es
  have e := kws_eq g (i := 18) (by decide) (c := 118) (p := 18) rfl rfl
  have tc := told_c h2.1.2.2
  have tk1 : TkRel n (pI (pI s2 8 4 1) 52 19 1) t4 := tk_f (L1 := LT8C) (L2 := 0) h2.1.1 (fr_i (fr_i fr_r 8 rfl rfl) 209 rfl rfl) fr_r rfl rfl
  have kk : (pI (pI s2 8 4 1) 52 19 1).1 7 3 = s2.1 7 3 := by rw [q_nc rfl, q_nc rfl]
  refine rq_iC (fun c => rm_i (fun d => ?_) (fun d => absurd (e.mp c) d)) (fun c => rm_i (fun d => absurd (e.mpr d) c) (fun d => ?_))
  · have ff : ∀ {H : Sg → Sg → Prop}, RQ (bd (f_X7_wrong 5 s2) (fun r s => ck (r = 0 ∨ r = 1) (some (r, s)))) (bd (bd (f_X12_fails 5 t4) (fun r t => ck (r = 0 ∨ r = 1) (some (r, t)))) (fun r s => f_X12_streetPart_b102 r s)) (Og H) := og_fk sg_K0 h2.1.1 h2.1.2.1 5 (by decide)
    refine rq_iC (fun c3 => rm_i (fun b => ?_) (fun b => ?_)) (fun c3 => rm_i (fun b => ff) (fun b => ?_))
    · exfalso
      rcases tc with z | z | z | z
      · rw [z.2.2] at b
        exact absurd b (by decide)
      · rw [z.2.2] at b
        exact absurd b (by decide)
      · exact absurd (z.2.1.symm.trans c3) (by decide)
      · exact absurd (z.2.1.symm.trans c3) (by decide)
    · unfold f_X6_takeCounts_b35
      generalize hs2 : pI (pI s2 8 4 1) 52 19 1 = s3 at tk1 kk ⊢
      unfold f_X7_pass
      refine rc_i (fun _ => ?_) (fun z => absurd (kk.trans c) z)
      refine rm_n (fun t7 e7 => rc_b (rm_b ?_))
      have tk7 : TkRel n s3 t7 := by
        rw [e7]
        exact tk_f (L1 := 0) (L2 := 2 ^ 40) tk1 fr_r (fr_x 40 rfl) rfl (m_and rfl)
      refine rq_b2 (adv_s tk7) (fun _ s5 _ t9 w => rc_s (rq_iC (fun z => absurd z i10) (fun _ => rm_i (fun z => absurd z (by decide)) (fun _ => rm_s ?_))))
      have q3 := w.2.2.2
      have kp := kp_of w
      obtain ⟨⟨a1, a2, a3, a4, a5, a6, a7, a8, a9, a10, a11, a12⟩, a13, a14, a15, a16, a17, a18, a19, a20⟩ := kp.1
      have ek : ∀ c, ¬ c = 8 → ¬ c = 52 → s3.1 c = s2.1 c := fun c y1 y2 => funext fun k => by
        rw [← hs2, pI_1, if_neg (fun y => y2 y.1), pI_1, if_neg (fun y => y1 y.1)]
      have p7 : s3.1 7 2 = s2.1 7 2 := by rw [ek 7 (by decide) (by decide)]
      have tM : ∀ k, ¬ k = 14 → mN (pI t9 1 1934 1) k = mN t4 k := fun k hk => by
        show (pI t9 1 1934 1).1 1 (1920 + k) = t4.1 1 (1920 + k)
        rw [pI_1, if_neg (fun y => hk (by have := y.2; omega)), kp.2.1, e7, q_nc rfl]
      have fin : SR n s5 (pI t9 1 1934 1) := by
        refine sr_x h2 ?_ (fun c hc => ?_) (fun k k1 k2 => ?_) ?_ ?_ ?_ (fun k k1 k2 => tM k k2) ?_ ?_ ?_
        · exact tk_f (L1 := 0) (L2 := 2 ^ 1) w.1 fr_r (fr_x 1 rfl) rfl (m_and rfl)
        · have y1 : ¬ c = 8 := fun y => by rw [y] at hc; exact absurd hc (by decide)
          have y2 : ¬ c = 52 := fun y => by rw [y] at hc; exact absurd hc (by decide)
          rw [← ek c y1 y2]
          simp only [List.mem_cons, List.not_mem_nil, or_false] at hc
          rcases hc with y | y | y | y | y | y | y | y | y | y | y | y | y | y | y | y | y <;> subst y <;> assumption
        · rw [a1, ← hs2, pI_1, if_neg (fun y => k2 y.2), q_nc rfl]
        · rw [a3, ← hs2]
          rfl
        · show t9.2 2 = _
          rw [kp.2.2.1, e7]
          rfl
        · rw [q_nc rfl, kp.2.2.2.2, e7, q_ne rfl]
        · have y3 : s5.1 8 3 = s2.1 8 3 := by rw [a20, ← hs2, q_nc rfl, q_ne rfl]
          have y4 : s5.1 8 4 = 1 := by rw [a20, ← hs2, q_nc rfl, q_eq]
          have y20 : (pI t9 1 1934 1).1 0 20 = (t4.1 0 20) ||| ((1 : Int32) <<< ((18 - 17) &&& 31)) := by
            rw [q_nc rfl, kp.2.2.2.1, e7, q_eq]
          unfold ToldS
          rw [y3, y4, y20]
          rcases tc with z | z | z | z
          · rw [z.1, z.2.2]
            exact ⟨by decide, Or.inl rfl, Or.inr rfl⟩
          · rw [z.1, z.2.2]
            exact ⟨by decide, Or.inr rfl, Or.inr rfl⟩
          · exact absurd (z.2.1.symm.trans c3) (by decide)
          · exact absurd (z.2.1.symm.trans c3) (by decide)
        · rw [a1, ← hs2, q_ne rfl, q_nc rfl, tM 13 (by decide)]
          exact h2.2.1.2.2.1.2.1
        · show _ = (pI t9 1 1934 1).1 1 1934
          rw [q_eq, a1, ← hs2, q_eq]
      refine semi2_r fin ?_
      rw [p7] at q3
      omega
    · exfalso
      rcases tc with z | z | z | z
      · exact c3 z.2.1
      · exact c3 z.2.1
      · rw [z.2.2] at b
        exact b (by decide)
      · rw [z.2.2] at b
        exact b (by decide)
  · unfold f_X6_takeCounts_b35
    generalize pI (pI s2 8 4 1) 52 19 1 = s3 at tk1 kk ⊢
    unfold f_X7_pass
    refine rc_i (fun z => absurd (kk.symm.trans z) c) (fun _ => ?_)
    exact rq_b2 (og_f (H := fun _ _ => False) tk1 h2.1.2.1 2 (by decide)) (fun r s r' t g => og_b sg_K0 g (fun z => z))
