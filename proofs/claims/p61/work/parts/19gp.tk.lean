/-! faults: what street and days leave of them, on each side -/
theorem wb_p (a : Int32) (s : Sg) : PQ (f_X7_begin a s) (fun _ s9 => Wf s9) := by
  unfold f_X7_begin
  refine pq_n (fun s1 _ => pq_n (fun s2 e => pq_b (ft_X7_advance s2) (fun _ s4 g => pq_s (wf_t ?_ g rfl rfl))))
  rw [e]
  exact ⟨by rw [q_ne rfl, q_eq], q_eq⟩
def FlC (s s9 : Sg) : Prop := (s9.1 0 15 = 0 ∧ s9.1 0 18 = 0 ∧ s9.1 0 19 = -1) ∨ s9.1 0 15 = 9 ∨ (s9.1 0 15 = 1 ∧ s9.1 0 18 = s.1 0 18 ∧ s9.1 0 19 = s.1 0 19)
theorem flc_1 (s : Sg) : PQ (bd (f_X11_refuse 1 s) (fun r s => some (r, s))) (fun _ s9 => FlC s s9) := by
  have q : PQ (some ((-1 : Int32), pI s 0 15 1)) (fun _ s9 => FlC s s9) := pq_s (Or.inr (Or.inr ⟨q_eq, q_ne rfl, q_ne rfl⟩))
  exact q
theorem flc_9 (s u : Sg) : PQ (bd (f_X11_refuse 9 u) (fun r s => some (r, s))) (fun _ s9 => FlC s s9) := by
  have q : PQ (some ((-1 : Int32), pI u 0 15 9)) (fun _ s9 => FlC s s9) := pq_s (Or.inr (Or.inl q_eq))
  exact q
theorem flc_0 {L : Nat} {s s8 s10 s14 : Sg} (w : Wf s8) (e : s10 = pI (pI (pI s8 0 13 0) 0 18 (s8.1 7 8)) 0 19 (s8.1 7 9)) (g : Fr cC L s10 s14) (h1 : L.testBit 178 = false) (h2 : L.testBit 179 = false) (v : Int32) : PQ (bd (f_X11_answer v s14) (fun r s => some (r, s))) (fun _ s9 => FlC s s9) := by
  have q : PQ (some (v, pI s14 0 15 0)) (fun _ s9 => FlC s s9) := pq_s (Or.inl ⟨q_eq, by rw [q_ne rfl, fr_e g 0 18 178 rfl h1, e, q_ne rfl, q_eq]; exact w.1, by rw [q_ne rfl, fr_e g 0 19 179 rfl h2, e, q_eq]; exact w.2⟩)
  exact q
theorem flc_street (a1 : Int32) (s : Sg) : PQ (f_X11_street a1 s) (fun _ s9 => FlC s s9) := by
  unfold f_X11_street
  refine pq_b (wi_p a1 0 (s.1 0 13) s) (fun r1 s2 g => ?_)
  obtain ⟨es, -⟩ := g
  subst es
  refine pq_if (fun _ => flc_1 s2) (fun _ => pq_b (wb_p a1 s2) (fun _ s6 w6 => pq_b (wf_X6_takeText w6) (fun r7 s8 w8 => pq_b (ct_x s8) (fun _ s10 e10 => pq_if (fun _ => flc_9 s2 s10) (fun c => pq_b (ft_X10_copyFrom_51 s10) (fun _ s14 g14 => ?_))))))
  exact flc_0 (wo_n w8 c) e10 g14 rfl rfl _
theorem flc_days (a1 : Int32) (s : Sg) : PQ (f_X11_days a1 s) (fun _ s9 => FlC s s9) := by
  unfold f_X11_days
  refine pq_b (wi_p a1 0 (s.1 0 13) s) (fun r1 s2 g => ?_)
  obtain ⟨es, -⟩ := g
  subst es
  refine pq_if (fun _ => flc_1 s2) (fun _ => pq_if (fun _ => pq_b (wb_p a1 s2) (fun _ s6 w6 => pq_b (wf_X1_takeText w6) (fun r7 s8 w8 => pq_b (ct_x s8) (fun _ s10 e10 => pq_if (fun _ => flc_9 s2 s10) (fun c => pq_b (ft_X5_copyFrom_54 s10) (fun _ s14 g14 => ?_)))))) (fun _ => flc_1 s2))
  exact flc_0 (wo_n w8 c) e10 g14 rfl rfl _
/-! the reference -/
def FlM (s s9 : Sg) : Prop := (s9.1 0 2 = 0 ∧ s9.1 0 16 = 0 ∧ s9.1 0 17 = -1) ∨ s9.1 0 2 = 9 ∨ (s9.1 0 2 = 1 ∧ s9.1 0 16 = s.1 0 16 ∧ s9.1 0 17 = s.1 0 17)
theorem bgm_26 (m : Nat) : ∀ (v1 v3 : Int32) (s : Sg), PQ (f_X12_begins_b26 m v1 v3 s) (fun r s9 => r = 1 ∧ Fvz s9) := by
  induction m with
  | zero => intro v1 v3 s r s9 e; cases e
  | succ m ih =>
    intro v1 v3 s
    unfold f_X12_begins_b26
    refine pq_if (fun _ => pq_n (fun s1 e => pq_b (ft_X12_ahead _) (fun _ s3 g => pq_s ⟨rfl, fv_t ⟨fun _ => ?_, ?_⟩ g rfl⟩))) (fun _ => pq_c (fun _ => pq_n (fun s5 _ => ih v1 (v3 + 1) s5)))
    · rw [q_ne rfl, q_ne rfl, e, q_eq]
    · rw [q_ne rfl, q_ne rfl, e, q_ne rfl, q_eq]
      decide
theorem bgm_p (a1 a2 : Int32) (s : Sg) : PQ (f_X12_begins a1 a2 s) (fun r s9 => (r = 0 ∧ s9 = s) ∨ (r = 1 ∧ Fvz s9)) := by
  unfold f_X12_begins
  exact pq_if (fun _ => pq_s (Or.inl ⟨rfl, rfl⟩)) (fun _ => pq_if (fun _ => pq_s (Or.inl ⟨rfl, rfl⟩)) (fun _ => pq_if (fun _ => pq_w (bgm_26 BIG a1 0 _) (fun _ _ g => Or.inr g)) (fun _ => pq_s (Or.inl ⟨rfl, rfl⟩))))
theorem flm_t {s0 s : Sg} (h : Fvz s) (hz : ¬ s.1 0 18 = 0) (a : Int32) : PQ (bd (f_X12_taken a s) (fun r s => some (r, s))) (fun _ s9 => FlM s0 s9) := by
  refine pq_b (taken_p a s) (fun r s9 g => pq_s (Or.inr (Or.inl ?_)))
  rcases g with g | g
  · refine absurd (Int32.toInt_inj.mp ?_) hz
    have e0 : (0 : Int32).toInt = 0 := rfl
    have := h.2
    omega
  · rw [g.2.2, q_eq]
theorem flm_50 {s0 s : Sg} (h : Fvz s) : PQ (f_X12_street_b50 s) (fun _ s9 => FlM s0 s9) := by
  by_cases hz : s.1 0 18 = 0
  · refine pq_w (swx_50y s hz) (fun r s9 g => Or.inl ?_)
    obtain ⟨s', m, -, e⟩ := g
    rw [e]
    exact ⟨q_eq, by rw [q_ne rfl, q_eq], by rw [q_ne rfl, q_ne rfl, m.2.2.1 0 (by decide)]; exact h.1 hz⟩
  · unfold f_X12_street_b50
    rw [if_neg hz]
    exact flm_t h hz _
theorem flm_31 {s0 : Sg} (m : Nat) : ∀ (v2 : Int32) (s : Sg), Fvz s → PQ (f_X12_street_b31 m v2 s) (fun _ s9 => FlM s0 s9) := by
  induction m with
  | zero => intro v2 s _ r s9 e; cases e
  | succ m ih =>
    intro v2 s h
    unfold f_X12_street_b31
    exact pq_if (fun _ => flm_50 h) (fun _ => pq_if (fun _ => flm_50 h) (fun _ => pq_b (fv_X12_streetPart h) (fun r s2 g => ih r s2 g)))
theorem flm_1 (s : Sg) : PQ (bd (f_X12_refuse 1 s) (fun r s => some (r, s))) (fun _ s9 => FlM s s9) := by
  have q : PQ (some ((-1 : Int32), pI s 0 2 1)) (fun _ s9 => FlM s s9) := pq_s (Or.inr (Or.inr ⟨q_eq, q_ne rfl, q_ne rfl⟩))
  exact q
theorem flm_street (a1 : Int32) (s : Sg) : PQ (f_X12_street a1 s) (fun _ s9 => FlM s s9) := by
  unfold f_X12_street
  refine pq_b (bgm_p a1 900 s) (fun r s2 g => ?_)
  rcases g with ⟨e, es⟩ | ⟨e, h⟩
  · subst es
    rw [e, if_pos rfl]
    exact flm_1 s2
  · rw [e, if_neg (by decide)]
    exact pq_b (ft_X12_plain 1920 s2) (fun _ s6 g6 => flm_31 BIG 1 _ (fv_i (fv_t h g6 rfl) 40 rfl rfl))
theorem flm_77 {s0 s : Sg} (h : Fvz s) : PQ (f_X12_days_b77 s) (fun _ s9 => FlM s0 s9) := by
  unfold f_X12_days_b77
  refine pq_if (fun hz => ?_) (fun hz => flm_t h hz _)
  have z18 : (pI s 1 11 (s.1 1 1931)).1 0 18 = 0 := by rw [q_nc rfl]; exact hz
  refine pq_w (cpd_d _ z18 BIG 110 110 _ rfl (by decide) (by decide) ⟨fun _ _ => rfl, rfl, fun p => by rw [if_neg (by omega)]⟩) (fun r s9 g => Or.inl ?_)
  obtain ⟨t', m, -, e⟩ := g
  have a : t'.1 0 18 = 0 := by rw [m.1 0 (by decide)]; exact z18
  have b : t'.1 0 17 = s.1 0 17 := by rw [m.1 0 (by decide), q_nc rfl]
  rw [e]
  exact ⟨q_eq, by rw [q_ne rfl, q_eq]; exact a, by rw [q_ne rfl, q_ne rfl, b]; exact h.1 hz⟩
theorem flm_57 {s0 s : Sg} (h : Fvz s) : PQ (f_X12_days_b57 s) (fun _ s9 => FlM s0 s9) := by
  unfold f_X12_days_b57
  exact pq_if (fun _ => pq_if (fun _ => flm_77 h) (fun _ => pq_b (fv_X12_fails 2 (by decide) h) (fun _ s14 g => flm_77 g))) (fun _ => flm_77 h)
theorem flm_38 {s0 : Sg} (m : Nat) : ∀ (v2 : Int32) (s : Sg), Fvz s → PQ (f_X12_days_b38 m v2 s) (fun _ s9 => FlM s0 s9) := by
  induction m with
  | zero => intro v2 s _ r s9 e; cases e
  | succ m ih =>
    intro v2 s h
    unfold f_X12_days_b38
    exact pq_if (fun _ => flm_57 h) (fun _ => pq_if (fun _ => flm_57 h) (fun _ => pq_b (fv_X12_dayStep h) (fun r s2 g => ih r s2 g)))
theorem flm_days (a1 : Int32) (s : Sg) : PQ (f_X12_days a1 s) (fun _ s9 => FlM s s9) := by
  unfold f_X12_days
  refine pq_b (bgm_p a1 300 s) (fun r s2 g => ?_)
  rcases g with ⟨e, es⟩ | ⟨e, h⟩
  · subst es
    rw [e, if_pos rfl]
    exact flm_1 s2
  · rw [e, if_neg (by decide)]
    refine pq_n (fun s5 e5 => flm_38 BIG 1 _ ?_)
    rw [e5]
    exact fv_i (fv_i (fv_i h 1 rfl rfl) 42 rfl rfl) 43 rfl rfl
/-- both sides' faults behind a street, days -/
theorem fl_both {s t s' t' : Sg} (h : FlR s t) (c : FlC s s') (m : FlM t t') (e : s'.1 0 15 = t'.1 0 2) (h9 : s'.1 0 15 = 9 → FlR s' t') : FlR s' t' := by
  rcases c with c | c | c
  · rcases m with m | m | m
    · exact ⟨c.2.1.trans m.2.1.symm, c.2.2.trans m.2.2.symm⟩
    · exact h9 (e.trans m)
    · exact absurd (c.1.symm.trans (e.trans m.1)) (by decide)
  · exact h9 c
  · rcases m with m | m | m
    · exact absurd (c.1.symm.trans (e.trans m.1)) (by decide)
    · exact h9 (e.trans m)
    · exact ⟨c.2.1.trans (h.1.trans m.2.1.symm), c.2.2.trans (h.2.trans m.2.2.symm)⟩
/-- a street's answers, its status, what is there then, its fault -/
theorem street_g {sC sM : Sg} (a1 : Int32) (e10 : sC.1 0 13 = sM.1 0 10) (hc : 0 ≤ (sM.1 0 10).toInt ∧ (sM.1 0 10).toInt ≤ 900) (tb : TapB sC sM) (hF : FlR sC sM) : RQ (f_X11_street a1 sC) (f_X12_street a1 sM) (fun r s r' t => (r = r' ∧ s.1 0 15 = t.1 0 2 ∧ (s.1 0 15 = 0 → FreshP s t)) ∧ FlR s t) := by
  have k9 : RQ (f_X11_street a1 sC) (f_X12_street a1 sM) (fun _ s _ t => s.1 0 15 = 9 → FlR s t) := by
    refine street_x a1 e10 hc tb (J := fun _ => True) (fun _ _ _ _ _ _ => trivial) (fun _ _ _ => trivial) (rq_s (fun z => absurd z (by rw [q_eq]; decide))) (fun n s t h _ k => ?_) (fun s t h => ?_)
    · refine rq_bC (ct_x s) (fun _ s10 e => rq_bC (cw_X10_copyFrom_51 s10) (fun _ s14 w => ?_))
      have p : RQ (some (s14.1 25 14, pI s14 0 15 0)) (f_X12_street_b50 t) (fun _ s _ t => s.1 0 15 = 9 → FlR s t) :=
        rq_pp (P := fun _ s => s.1 0 15 = 0) (pq_s q_eq) (swx_50y t h.1.2.1) (fun r s r' t q _ z => absurd (q.symm.trans z) (by decide))
      exact p
    · refine rq_bC (ct_x s) (fun _ s10 e => ?_)
      have p : RQ (some ((-1 : Int32), pI s10 0 15 9)) (f_X12_street_b50 t) (fun _ s _ t => s.1 0 15 = 9 → FlR s t) := by
        have h0 : ¬ t.1 0 18 = 0 := fun z => by
          have h3 := h.2.2
          rw [z] at h3
          exact absurd h3 (by decide)
        refine rq_pp (P := fun _ s => s = pI s10 0 15 9) (pq_s rfl) (swx_50n t h0 (Int.le_of_lt h.2.2)) (fun r u r' v q y _ => ?_)
        rw [q, y.2, e]
        exact ⟨by rw [q_ne rfl, q_ne rfl, q_eq, q_ne rfl, q_eq]; exact h.1, by rw [q_ne rfl, q_eq, q_ne rfl, q_ne rfl]; exact h.2.1⟩
      exact p
  intro r s r' t x y
  have f := street_f a1 e10 hc tb r s r' t x y
  exact ⟨f, fl_both hF (flc_street a1 sC r s x) (flm_street a1 sM r' t y) f.2.1 (k9 r s r' t x y)⟩
theorem days_g {sC sM : Sg} (a1 : Int32) (e10 : sC.1 0 13 = sM.1 0 10) (hc : 0 ≤ (sM.1 0 10).toInt ∧ (sM.1 0 10).toInt ≤ 900) (tb : TapB sC sM) (hP : PlnR 24 sC (sM.1 1)) (hN : NmsR 24 sC (sM.2 2) (sM.1 1)) (hF : FlR sC sM) : RQ (f_X11_days a1 sC) (f_X12_days a1 sM) (fun r s r' t => (r = r' ∧ s.1 0 15 = t.1 0 2 ∧ (s.1 0 15 = 0 → DayP s t)) ∧ FlR s t) := by
  intro r s r' t x y
  have f := days_f a1 e10 hc tb hP hN r s r' t x y
  exact ⟨⟨f.1, f.2.1, f.2.2.1⟩, fl_both hF (flc_days a1 sC r s x) (flm_days a1 sM r' t y) f.2.1 f.2.2.2⟩
