/-! texts: a quarrel -/
theorem qre_st {n : Nat} {x : Int32} {sC sM s t : Sg} (w : StT n sC sM s t) (h : QrE x sC sM) : QrE x s t := by
  obtain ⟨⟨⟨y1, y2, y3, y4, y5, y6, y7, y8, y9, y10, y11, y12⟩, y13, y14, y15, y16, y17, y18, y19, y20⟩, y21, y22, y23, y24⟩ := kp_of w
  unfold QrE
  rw [y6, y7, y21]
  exact h
theorem quarrel_r {n : Nat} {sC sM : Sg} (h : SR n sC sM) : RQ (f_X6_takeQuarrel sC) (bd (f_X12_aQuarrel sM) (fun r s => f_X12_streetPart_b102 r s)) (Og (PaT n sC sM)) := by
  obtain ⟨h1, h2, h3, h4⟩ := h
  have hcnt : sC.1 52 14 = sM.1 1 1921 := h2.1.2.1
  have q0 := tk_pos h1.1
  unfold f_X6_takeQuarrel f_X12_aQuarrel
  rw [hcnt]
  refine rm_n (fun x1 ex1 => rm_b (rq_b2 (new_r (q := 1) h1 h2 h3 h4 (by decide) 104 8 1 8 rfl rfl rfl rfl) (fun r s r' t g => og_k sg_K0 g (fun g => ?_))))
  have wk := wk_of (by decide) g
  have g5 := g.2.2.2.2.1
  have hx := wk.2.2.2.2.2
  have wk : WkT n 1 (sM.1 1 1921) s t := wk
  have hx : 0 ≤ (sM.1 1 1921).toInt ∧ (sM.1 1 1921).toInt < 8 := ⟨hx.1, hx.2.1⟩
  generalize sM.1 1 1921 = x at wk hx ex1 ⊢
  have cl := cl_nat x
  have e5 : (5 : Int32).toInt = 5 := rfl
  have e2 : (2 : Int32).toInt = 2 := rfl
  have e1960 : (1960 : Int32).toInt = 1960 := rfl
  have mx : (5 * x).toInt = 5 * x.toInt := i_mulx 5 x (show -2147483648 ≤ 5 * x.toInt ∧ 5 * x.toInt ≤ 2147483647 from by omega)
  have ax : x1.toInt = 1960 + 5 * x.toInt := by
    rw [ex1]
    have := i_addx 1960 (5 * x) (show -2147483648 ≤ 1960 + (5 * x).toInt ∧ 1960 + (5 * x).toInt ≤ 2147483647 from by omega)
    omega
  have ax2 : (x1 + 2).toInt = x1.toInt + 2 := i_addx x1 2 (show -2147483648 ≤ x1.toInt + 2 ∧ x1.toInt + 2 ≤ 2147483647 from by omega)
  have clx2 := cl_nat (x1 + 2)
  have dx2 : (x1 + 2).toNatClampNeg = 1920 + (42 + 5 * x.toNatClampNeg) := by omega
  refine rm_b (rq_b2 (pass_w wk.1.1 wk.1.2.1 105 8 5 (by decide) rfl rfl) (fun u s4 u' t5 w => og_k sg_K0 w (fun w => ?_)))
  have wk4 := wk_st w wk
  have q1 := tk_pos wk.1.1
  have q2 := w.2.2.2
  unfold f_X12_twoHouses
  refine qends_r wk4 (p0 := (sC.1 7 2).toInt) (by omega) ax sg_K0 _ _ (fun sa ta ha pa Ea => ?_) BIG
  refine rm_b (rq_b2 (pass_w ha.1.1 ha.1.2.1 107 10 7 (by decide) rfl rfl) (fun u sb u' tb w2 => og_k sg_K0 w2 (fun w2 => ?_)))
  have hb := wk_st w2 ha
  have Eb := qre_st w2 Ea
  have q3 := tk_pos ha.1.1
  have q4 := w2.2.2.2
  refine rm_b (rq_b2 (num_r hb.1.1 hb.1.2.1 1 99 (x1 + 2) _ dx2) (fun u sc u' tc w3 => og_k sg_K0 w3 (fun w3 => ?_)))
  have q5 := tk_pos hb.1.1
  have q6 := w3.2.2.2.1
  refine rq_nC (fun s16 e16 => rq_bC (join_p x s16) (fun _ s18 e18 => rq_nC (fun s19 e19 => rm_n (fun t12 e12 => rm_s ?_))))
  have a58 : s16.1 58 x.toNatClampNeg = sc.1 58 x.toNatClampNeg := by rw [e16, q_nc rfl]
  have a59 : s16.1 59 x.toNatClampNeg = sc.1 59 x.toNatClampNeg := by rw [e16, q_nc rfl]
  have a61 : ∀ k, s16.1 61 k = sc.1 61 k := fun k => by rw [e16, q_nc rfl]
  rw [a58, a59, a61, e16] at e18
  have fin := qr_done hb Eb w3 e18
  rw [e19, e12]
  refine semi_r fin ?_
  rw [q_nc rfl, e18, q_nc rfl, q_nc rfl, q_nc rfl]
  omega
