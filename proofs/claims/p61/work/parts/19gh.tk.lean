/-! days: any step, an END, all of the text -/
theorem kw_s {k r : Int32} (h : KwS k r) : ((k = 116 ∧ r = 4) ∨ (k = 119 ∧ r = 20) ∨ (k = 120 ∧ r = 19) ∨ (k = 121 ∧ r = 21) ∨ (k = 122 ∧ r = 22) ∨ (k = 123 ∧ r = 23) ∨ (k = 124 ∧ r = 24) ∨ (k = 128 ∧ r = 25) ∨ (k = 129 ∧ r = 26) ∨ (k = 130 ∧ r = 27)) ∨ ((¬ k.toInt = 116 ∧ ¬ k.toInt = 130 ∧ ¬ k.toInt = 128 ∧ ¬ k.toInt = 129 ∧ ¬ (119 ≤ k.toInt ∧ k.toInt ≤ 124)) ∧ ¬ r = 4 ∧ (r.toInt < 19 ∨ 27 < r.toInt)) := by
  have ei : ∀ {a b : Int32}, a.toInt = b.toInt → a = b := fun y => Int32.toInt_inj.mp y
  rcases h with ⟨i, hi, hk, hr⟩ | ⟨hk, hr⟩
  · have d : ∀ i, i < 31 → ((i = 16 ∧ permK.getD i 0 = 4) ∨ (i = 19 ∧ permK.getD i 0 = 20) ∨ (i = 20 ∧ permK.getD i 0 = 19) ∨ (i = 21 ∧ permK.getD i 0 = 21) ∨ (i = 22 ∧ permK.getD i 0 = 22) ∨ (i = 23 ∧ permK.getD i 0 = 23) ∨ (i = 24 ∧ permK.getD i 0 = 24) ∨ (i = 28 ∧ permK.getD i 0 = 25) ∨ (i = 29 ∧ permK.getD i 0 = 26) ∨ (i = 30 ∧ permK.getD i 0 = 27)) ∨ ((¬ i = 16 ∧ ¬ i = 30 ∧ ¬ i = 28 ∧ ¬ i = 29 ∧ ¬ (19 ≤ i ∧ i ≤ 24)) ∧ ¬ permK.getD i 0 = 4 ∧ (permK.getD i 0 < 19 ∨ 27 < permK.getD i 0)) := by decide +kernel
    rcases d i hi with y | ⟨y1, y2, y3⟩
    · left
      rcases y with ⟨z, z'⟩ | ⟨z, z'⟩ | ⟨z, z'⟩ | ⟨z, z'⟩ | ⟨z, z'⟩ | ⟨z, z'⟩ | ⟨z, z'⟩ | ⟨z, z'⟩ | ⟨z, z'⟩ | ⟨z, z'⟩
      · exact Or.inl ⟨ei (by rw [hk, z]; rfl), ei (by rw [hr, z']; rfl)⟩
      · exact Or.inr (Or.inl ⟨ei (by rw [hk, z]; rfl), ei (by rw [hr, z']; rfl)⟩)
      · exact Or.inr (Or.inr (Or.inl ⟨ei (by rw [hk, z]; rfl), ei (by rw [hr, z']; rfl)⟩))
      · exact Or.inr (Or.inr (Or.inr (Or.inl ⟨ei (by rw [hk, z]; rfl), ei (by rw [hr, z']; rfl)⟩)))
      · exact Or.inr (Or.inr (Or.inr (Or.inr (Or.inl ⟨ei (by rw [hk, z]; rfl), ei (by rw [hr, z']; rfl)⟩))))
      · exact Or.inr (Or.inr (Or.inr (Or.inr (Or.inr (Or.inl ⟨ei (by rw [hk, z]; rfl), ei (by rw [hr, z']; rfl)⟩)))))
      · exact Or.inr (Or.inr (Or.inr (Or.inr (Or.inr (Or.inr (Or.inl ⟨ei (by rw [hk, z]; rfl), ei (by rw [hr, z']; rfl)⟩))))))
      · exact Or.inr (Or.inr (Or.inr (Or.inr (Or.inr (Or.inr (Or.inr (Or.inl ⟨ei (by rw [hk, z]; rfl), ei (by rw [hr, z']; rfl)⟩)))))))
      · exact Or.inr (Or.inr (Or.inr (Or.inr (Or.inr (Or.inr (Or.inr (Or.inr (Or.inl ⟨ei (by rw [hk, z]; rfl), ei (by rw [hr, z']; rfl)⟩))))))))
      · exact Or.inr (Or.inr (Or.inr (Or.inr (Or.inr (Or.inr (Or.inr (Or.inr (Or.inr ⟨ei (by rw [hk, z]; rfl), ei (by rw [hr, z']; rfl)⟩))))))))
    · refine Or.inr ⟨by omega, fun y => ?_, by omega⟩
      rw [y] at hr
      have : (4 : Int32).toInt = 4 := rfl
      omega
  · refine Or.inr ⟨by omega, fun y => ?_, ?_⟩
    · rw [hr] at y
      exact absurd y (by decide)
    · rw [hr]
      exact Or.inl (by decide)
theorem isw_1 (k : Int32) (s : Sg) (h : k = 116 ∨ k = 130 ∨ k = 128 ∨ (119 ≤ k.toInt ∧ k.toInt ≤ 124)) : PQ (f_X1_isStepWord k s) (fun r s' => s' = s ∧ r = 1) := by
  unfold f_X1_isStepWord f_X11_within
  have c1 : (119 : Int32).toInt = 119 := rfl
  have c2 : (124 : Int32).toInt = 124 := rfl
  refine pq_if (fun _ => pq_s ⟨rfl, rfl⟩) (fun z1 => pq_if (fun _ => pq_s ⟨rfl, rfl⟩) (fun z2 => pq_if (fun _ => pq_s ⟨rfl, rfl⟩) (fun z3 => ?_)))
  have y : 119 ≤ k.toInt ∧ k.toInt ≤ 124 := by
    rcases h with z | z | z | z
    · exact absurd z z1
    · exact absurd z z2
    · exact absurd z z3
    · exact z
  rw [if_neg (fun z => by have := Int32.lt_iff_toInt_lt.mp z; omega), if_neg (fun z => by have := Int32.lt_iff_toInt_lt.mp z; omega)]
  exact pq_s ⟨rfl, rfl⟩
theorem isw_0 (k : Int32) (s : Sg) (h : ¬ k.toInt = 116 ∧ ¬ k.toInt = 130 ∧ ¬ k.toInt = 128 ∧ ¬ (119 ≤ k.toInt ∧ k.toInt ≤ 124)) : PQ (f_X1_isStepWord k s) (fun r s' => s' = s ∧ r = 0) := by
  unfold f_X1_isStepWord f_X11_within
  have c1 : (119 : Int32).toInt = 119 := rfl
  have c2 : (124 : Int32).toInt = 124 := rfl
  refine pq_if (fun z => absurd (by rw [z]; rfl) h.1) (fun z1 => pq_if (fun z => absurd (by rw [z]; rfl) h.2.1) (fun z2 => pq_if (fun z => absurd (by rw [z]; rfl) h.2.2.1) (fun z3 => ?_)))
  by_cases y : k < 119
  · rw [if_pos y]
    exact pq_s ⟨rfl, rfl⟩
  · rw [if_neg y, if_pos (Int32.lt_iff_toInt_lt.mpr (by
      have : ¬ k.toInt < 119 := fun z => y (Int32.lt_iff_toInt_lt.mpr (by omega))
      omega))]
    exact pq_s ⟨rfl, rfl⟩
theorem dy_ab {n x : Nat} {s t : Sg} (h : DyR n 0 0 x s t) (hx : x < 60) : (s.1 54 7).toInt = (x : Int) ∧ (2030 + 6 * (t.1 1 1931)).toInt = 2030 + 6 * (x : Int) ∧ (t.1 1 1931).toInt = (x : Int) := by
  obtain ⟨⟨q1, q2, q3, q4⟩, ⟨q5, q6⟩, q7, q8⟩ := h.2.1
  have c6 : (6 : Int32).toInt = 6 := rfl
  have c2030 : (2030 : Int32).toInt = 2030 := rfl
  have em : (6 * (t.1 1 1931)).toInt = 6 * (t.1 1 1931).toInt := by
    rw [i_mulx _ _ (by rw [c6]; omega), c6]
  refine ⟨by rw [q1]; omega, ?_, by omega⟩
  rw [i_addx _ _ (by rw [em, c2030]; omega), em, c2030]
  omega
theorem hB_0 {s : Sg} {W : Int32} (k : s.1 7 3 = W) (h1 : ¬ W = 124) (h2 : ¬ W = 128) : f_X1_beginStep s = f_X1_beginStep_b26 W 0 s := by
  unfold f_X1_beginStep
  rw [k, if_neg h1, if_neg h2]
theorem hB_1 {s : Sg} {W : Int32} (k : s.1 7 3 = W) (h : W = 124 ∨ W = 128) : f_X1_beginStep s = f_X1_beginStep_b26 W 1 s := by
  unfold f_X1_beginStep
  rw [k]
  by_cases y : W = 124
  · rw [if_pos y]
    rfl
  · rw [if_neg y, if_pos (h.resolve_left y)]
    rfl
theorem b42_e {Kd v2 v3 v4 : Int32} {t : Sg} (h : Kd = 4 ∨ (¬ Kd = 4 ∧ ¬ Kd < 19 ∧ ¬ 27 < Kd)) : f_X12_dayStep_b42 Kd v2 v3 v4 t = f_X12_dayStep_b61 Kd v2 v3 v4 t := by
  unfold f_X12_dayStep_b42
  rcases h with y | ⟨y1, y2, y3⟩
  · rw [if_pos y]
  · rw [if_neg y1, if_neg y2, if_neg y3]
theorem stp_n {n x : Nat} {s t s' : Sg} {dd e : Int} {t' : Sg} (D : DyR n dd e x s' t') (p : (s.1 7 2).toInt ≤ (s'.1 7 4).toInt) : (s.1 7 2).toInt ≤ (s'.1 7 2).toInt := by
  have := tk_pos D.1.1.1
  omega
theorem step_r {n x : Nat} {s t : Sg} (h : DyR n 0 0 x s t) (hk : ¬ s.1 7 3 = 129) : RQ (f_X1_takeStep s) (f_X12_dayStep t) (Og (StpT n x s)) := by
  unfold f_X12_dayStep
  refine rq_bM (word_r h.1.1.1) (fun r t2 m => ?_)
  obtain ⟨et, mk, -⟩ := m
  rw [et]
  refine rq_nM (fun x3 e3 => ?_)
  rw [e3]
  rcases kw_s mk with y | ⟨y1, y2, y3⟩
  · rcases y with ⟨z, z'⟩ | ⟨z, z'⟩ | ⟨z, z'⟩ | ⟨z, z'⟩ | ⟨z, z'⟩ | ⟨z, z'⟩ | ⟨z, z'⟩ | ⟨z, z'⟩ | ⟨z, z'⟩ | ⟨z, z'⟩ <;> subst z'
    · refine rq_iM (fun y => absurd y (by decide)) (fun _ => rq_iM (fun y => absurd y (by decide)) (fun _ => ?_))
      refine stp_d h 116 4 0 (hB_0 z (by decide) (by decide)) (isw_1 _ _ (Or.inl rfl)) (by decide) (Or.inl ⟨rfl, rfl⟩) (fun _ => b42_e (Or.inl rfl)) (fun s' t' D w m p hx => ?_)
      exact ord_116 D hx (kMd_0 _ _ _ _) _ _ (dy_ab h hx).1 (dy_ab h hx).2.1 w m (fun s2 t2 g gw => fin_0 g.1 g.2.1 (by rw [gw, w]; decide) (by decide) (Int.le_trans (stp_n (t := t) D p) g.2.2.1))
    · refine rq_iM (fun y => absurd y (by decide)) (fun _ => rq_iM (fun y => absurd y (by decide)) (fun _ => ?_))
      refine stp_d h 119 20 0 (hB_0 z (by decide) (by decide)) (isw_1 _ _ (Or.inr (Or.inr (Or.inr (by decide))))) (by decide) (Or.inl ⟨rfl, rfl⟩) (fun _ => b42_e (Or.inr (by decide))) (fun s' t' D w m p hx => ?_)
      exact ord_119 D hx (kMd_0 _ _ _ _) _ _ (dy_ab h hx).1 (dy_ab h hx).2.1 w m (fun s2 t2 g gw => fin_0 g.1 g.2.1 (by rw [gw, w]; decide) (by decide) (Int.le_trans (stp_n (t := t) D p) g.2.2.1))
    · refine rq_iM (fun y => absurd y (by decide)) (fun _ => rq_iM (fun y => absurd y (by decide)) (fun _ => ?_))
      refine stp_d h 120 19 0 (hB_0 z (by decide) (by decide)) (isw_1 _ _ (Or.inr (Or.inr (Or.inr (by decide))))) (by decide) (Or.inl ⟨rfl, rfl⟩) (fun _ => b42_e (Or.inr (by decide))) (fun s' t' D w m p hx => ?_)
      exact ord_120 D hx (kMd_0 _ _ _ _) _ _ (dy_ab h hx).1 (dy_ab h hx).2.1 w m (fun s2 t2 g gw => fin_0 g.1 g.2.1 (by rw [gw, w]; decide) (by decide) (Int.le_trans (stp_n (t := t) D p) g.2.2.1))
    · refine rq_iM (fun y => absurd y (by decide)) (fun _ => rq_iM (fun y => absurd y (by decide)) (fun _ => ?_))
      refine stp_d h 121 21 0 (hB_0 z (by decide) (by decide)) (isw_1 _ _ (Or.inr (Or.inr (Or.inr (by decide))))) (by decide) (Or.inl ⟨rfl, rfl⟩) (fun _ => b42_e (Or.inr (by decide))) (fun s' t' D w m p hx => ?_)
      exact ord_121 D hx (kMd_0 _ _ _ _) _ _ (dy_ab h hx).1 (dy_ab h hx).2.1 w m (fun s2 t2 g gw => fin_0 g.1 g.2.1 (by rw [gw, w]; decide) (by decide) (Int.le_trans (stp_n (t := t) D p) g.2.2.1))
    · refine rq_iM (fun y => absurd y (by decide)) (fun _ => rq_iM (fun y => absurd y (by decide)) (fun _ => ?_))
      refine stp_d h 122 22 0 (hB_0 z (by decide) (by decide)) (isw_1 _ _ (Or.inr (Or.inr (Or.inr (by decide))))) (by decide) (Or.inl ⟨rfl, rfl⟩) (fun _ => b42_e (Or.inr (by decide))) (fun s' t' D w m p hx => ?_)
      exact ord_122 D hx (kMd_0 _ _ _ _) _ _ (dy_ab h hx).1 (dy_ab h hx).2.1 w m (fun s2 t2 g gw => fin_0 g.1 g.2.1 (by rw [gw, w]; decide) (by decide) (Int.le_trans (stp_n (t := t) D p) g.2.2.1))
    · refine rq_iM (fun y => absurd y (by decide)) (fun _ => rq_iM (fun y => absurd y (by decide)) (fun _ => ?_))
      refine stp_d h 123 23 0 (hB_0 z (by decide) (by decide)) (isw_1 _ _ (Or.inr (Or.inr (Or.inr (by decide))))) (by decide) (Or.inl ⟨rfl, rfl⟩) (fun _ => b42_e (Or.inr (by decide))) (fun s' t' D w m p hx => ?_)
      exact ord_123 _ _ (fin_0 D ⟨Or.inr (Or.inr (Or.inr (Or.inr (Or.inr (Or.inl ⟨w, m⟩))))), vd_0 (Or.inl m)⟩ (by rw [w]; decide) (by decide) p)
    · refine rq_iM (fun _ => ?_) (fun y => absurd rfl y)
      refine stp_d h 124 24 1 (hB_1 z (Or.inl rfl)) (isw_1 _ _ (Or.inr (Or.inr (Or.inr (by decide))))) (by decide) (Or.inr ⟨rfl, rfl⟩) (fun _ => b42_e (Or.inr (by decide))) (fun s' t' D w m p hx => ?_)
      exact ord_124 D hx (kMd_0 _ _ _ _) _ _ (dy_ab h hx).1 (dy_ab h hx).2.1 w (fun s2 t2 g => fin_1 g.1 g.2.1 (Or.inl (g.2.2.2.trans w)) (dy_ab h hx).2.2 (by decide) (Int.le_trans (stp_n (t := t) D p) g.2.2.1))
    · refine rq_iM (fun y => absurd y (by decide)) (fun _ => rq_iM (fun _ => ?_) (fun y => absurd rfl y))
      refine stp_d h 128 25 1 (hB_1 z (Or.inr rfl)) (isw_1 _ _ (Or.inr (Or.inr (Or.inl rfl)))) (by decide) (Or.inr ⟨rfl, rfl⟩) (fun _ => b42_e (Or.inr (by decide))) (fun s' t' D w m p hx => ?_)
      exact ord_128 D hx (kMd_0 _ _ _ _) _ _ (dy_ab h hx).1 (dy_ab h hx).2.1 w m (fun s2 t2 g gw => fin_1 g.1 g.2.1 (Or.inr (gw.trans w)) (dy_ab h hx).2.2 (by decide) (Int.le_trans (stp_n (t := t) D p) g.2.2.1))
    · exact absurd z hk
    · refine rq_iM (fun y => absurd y (by decide)) (fun _ => rq_iM (fun y => absurd y (by decide)) (fun _ => ?_))
      refine stp_d h 130 27 0 (hB_0 z (by decide) (by decide)) (isw_1 _ _ (Or.inr (Or.inl rfl))) (by decide) (Or.inl ⟨rfl, rfl⟩) (fun _ => b42_e (Or.inr (by decide))) (fun s' t' D w m p hx => ?_)
      exact ord_130 _ _ (fin_0 D ⟨Or.inr (Or.inr (Or.inr (Or.inr (Or.inr (Or.inr (Or.inr (Or.inr (Or.inl ⟨w, m⟩)))))))), vd_0 (Or.inr (Or.inr m))⟩ (by rw [w]; decide) (by decide) p)
  · have c24 : (24 : Int32).toInt = 24 := rfl
    have c25 : (25 : Int32).toInt = 25 := rfl
    have c19 : (19 : Int32).toInt = 19 := rfl
    have c27 : (27 : Int32).toInt = 27 := rfl
    refine rq_iM (fun y => absurd y (fun z => by rw [z] at y3; omega)) (fun _ => rq_iM (fun y => absurd y (fun z => by rw [z] at y3; omega)) (fun _ => ?_))
    have n1 : ¬ s.1 7 3 = 124 := fun z => by
      have c : (124 : Int32).toInt = 124 := rfl
      rw [z] at y1
      omega
    have n2 : ¬ s.1 7 3 = 128 := fun z => by
      have c : (128 : Int32).toInt = 128 := rfl
      rw [z] at y1
      omega
    rw [ts_e, hB_0 rfl n1 n2]
    unfold f_X1_beginStep_b26 f_X12_dayStep_b42
    refine rc_b (rq_bC (isw_0 _ _ ⟨y1.1, y1.2.1, y1.2.2.1, y1.2.2.2.2⟩) (fun r s2 m => ?_))
    obtain ⟨es, er⟩ := m
    rw [es, er]
    refine rc_i (fun _ => rq_iM (fun z => absurd z y2) (fun _ => rq_iM (fun _ => flk_d h.1.1.1 h.1.1.2 2 (by decide) _) (fun z => rq_iM (fun _ => flk_d h.1.1.1 h.1.1.2 2 (by decide) _) (fun z2 => ?_)))) (fun z => absurd rfl z)
    exfalso
    rcases y3 with y3 | y3
    · exact z (Int32.lt_iff_toInt_lt.mpr (by omega))
    · exact z2 (Int32.lt_iff_toInt_lt.mpr (by omega))
