/-! faults: what street and days leave of them, on each side -/
theorem wb_p (a : Int32) (s : Sg) : PQ (f_X7_begin a s) (fun _ s9 => Wf s9) := by
  unfold f_X7_begin
  refine pq_n (fun s1 _ => pq_n (fun s2 e => pq_b (ft_X7_advance s2) (fun _ s4 g => pq_s (wf_t ?_ g rfl rfl))))
  rw [e]
  exact ⟨by rw [q_ne rfl, q_eq], q_eq⟩
def FlC (s s9 : Sg) : Prop := (s9.1 0 15 = 0 ∧ s9.1 0 18 = 0 ∧ s9.1 0 19 = -1) ∨ s9.1 0 15 = 9 ∨ (s9.1 0 15 = 1 ∧ s9.1 0 18 = s.1 0 18 ∧ s9.1 0 19 = s.1 0 19)
theorem flc_1 (s : Sg) : PQ (bd (f_X11_refuse 1 s) (fun r s => some (r, s))) (fun _ s9 => FlC s s9) := by
  have q : PQ (some ((-1 : Int32), pI s 0 15 1)) (fun _ s9 => FlC s s9) := pq_s (Or.inr (Or.inr ⟨q_eq, q_ne rfl, q_ne rfl⟩))
  exact q
theorem flc_9 (s u : Sg) : PQ (bd (f_X11_refuse 9 u) (fun r s => some (r, s))) (fun _ s9 => FlC s s9) := by
  have q : PQ (some ((-1 : Int32), pI u 0 15 9)) (fun _ s9 => FlC s s9) := pq_s (Or.inr (Or.inl q_eq))
  exact q
theorem flc_0 {L : Nat} {s s8 s10 s14 : Sg} (w : Wf s8) (e : s10 = pI (pI (pI s8 0 13 0) 0 18 (s8.1 7 8)) 0 19 (s8.1 7 9)) (g : Fr cC L s10 s14) (h1 : L.testBit 178 = false) (h2 : L.testBit 179 = false) (v : Int32) : PQ (bd (f_X11_answer v s14) (fun r s => some (r, s))) (fun _ s9 => FlC s s9) := by
  have q : PQ (some (v, pI s14 0 15 0)) (fun _ s9 => FlC s s9) := pq_s (Or.inl ⟨q_eq, by rw [q_ne rfl, fr_e g 0 18 178 rfl h1, e, q_ne rfl, q_eq]; exact w.1, by rw [q_ne rfl, fr_e g 0 19 179 rfl h2, e, q_eq]; exact w.2⟩)
  exact q
theorem flc_street (a1 : Int32) (s : Sg) : PQ (f_X11_street a1 s) (fun _ s9 => FlC s s9) := by
  unfold f_X11_street
  refine pq_b (wi_p a1 0 (s.1 0 13) s) (fun r1 s2 g => ?_)
  obtain ⟨es, -⟩ := g
  subst es
  refine pq_if (fun _ => flc_1 s2) (fun _ => pq_b (wb_p a1 s2) (fun _ s6 w6 => pq_b (wf_X6_takeText w6) (fun r7 s8 w8 => pq_b (ct_x s8) (fun _ s10 e10 => pq_if (fun _ => flc_9 s2 s10) (fun c => pq_b (ft_X10_copyFrom_51 s10) (fun _ s14 g14 => ?_))))))
  exact flc_0 (wo_n w8 c) e10 g14 rfl rfl _
theorem flc_days (a1 : Int32) (s : Sg) : PQ (f_X11_days a1 s) (fun _ s9 => FlC s s9) := by
  unfold f_X11_days
  refine pq_b (wi_p a1 0 (s.1 0 13) s) (fun r1 s2 g => ?_)
  obtain ⟨es, -⟩ := g
  subst es
  refine pq_if (fun _ => flc_1 s2) (fun _ => pq_if (fun _ => pq_b (wb_p a1 s2) (fun _ s6 w6 => pq_b (wf_X1_takeText w6) (fun r7 s8 w8 => pq_b (ct_x s8) (fun _ s10 e10 => pq_if (fun _ => flc_9 s2 s10) (fun c => pq_b (ft_X5_copyFrom_54 s10) (fun _ s14 g14 => ?_)))))) (fun _ => flc_1 s2))
  exact flc_0 (wo_n w8 c) e10 g14 rfl rfl _
/-! the reference -/
def FlM (s s9 : Sg) : Prop := (s9.1 0 2 = 0 ∧ s9.1 0 16 = 0 ∧ s9.1 0 17 = -1) ∨ s9.1 0 2 = 9 ∨ (s9.1 0 2 = 1 ∧ s9.1 0 16 = s.1 0 16 ∧ s9.1 0 17 = s.1 0 17)
theorem bgm_26 (m : Nat) : ∀ (v1 v3 : Int32) (s : Sg), PQ (f_X12_begins_b26 m v1 v3 s) (fun r s9 => r = 1 ∧ Fvz s9) := by
  induction m with
  | zero => intro v1 v3 s r s9 e; cases e
  | succ m ih =>
    intro v1 v3 s
    unfold f_X12_begins_b26
    refine pq_if (fun _ => pq_n (fun s1 e => pq_b (ft_X12_ahead _) (fun _ s3 g => pq_s ⟨rfl, fv_t ⟨fun _ => ?_, ?_⟩ g rfl⟩))) (fun _ => pq_c (fun _ => pq_n (fun s5 _ => ih v1 (v3 + 1) s5)))
    · rw [q_ne rfl, q_ne rfl, e, q_eq]
    · rw [q_ne rfl, q_ne rfl, e, q_ne rfl, q_eq]
      decide
theorem bgm_p (a1 a2 : Int32) (s : Sg) : PQ (f_X12_begins a1 a2 s) (fun r s9 => (r = 0 ∧ s9 = s) ∨ (r = 1 ∧ Fvz s9)) := by
  unfold f_X12_begins
  exact pq_if (fun _ => pq_s (Or.inl ⟨rfl, rfl⟩)) (fun _ => pq_if (fun _ => pq_s (Or.inl ⟨rfl, rfl⟩)) (fun _ => pq_if (fun _ => pq_w (bgm_26 BIG a1 0 _) (fun _ _ g => Or.inr g)) (fun _ => pq_s (Or.inl ⟨rfl, rfl⟩))))
theorem flm_t {s0 s : Sg} (h : Fvz s) (hz : ¬ s.1 0 18 = 0) (a : Int32) : PQ (bd (f_X12_taken a s) (fun r s => some (r, s))) (fun _ s9 => FlM s0 s9) := by
  refine pq_b (taken_p a s) (fun r s9 g => pq_s (Or.inr (Or.inl ?_)))
  rcases g with g | g
  · refine absurd (Int32.toInt_inj.mp ?_) hz
    have e0 : (0 : Int32).toInt = 0 := rfl
    have := h.2
    omega
  · rw [g.2.2, q_eq]
theorem flm_50 {s0 s : Sg} (h : Fvz s) : PQ (f_X12_street_b50 s) (fun _ s9 => FlM s0 s9) := by
  by_cases hz : s.1 0 18 = 0
  · refine pq_w (swx_50y s hz) (fun r s9 g => Or.inl ?_)
    obtain ⟨s', m, -, e⟩ := g
    rw [e]
    exact ⟨q_eq, by rw [q_ne rfl, q_eq], by rw [q_ne rfl, q_ne rfl, m.2.2.1 0 (by decide)]; exact h.1 hz⟩
  · unfold f_X12_street_b50
    rw [if_neg hz]
    exact flm_t h hz _
theorem flm_31 {s0 : Sg} (m : Nat) : ∀ (v2 : Int32) (s : Sg), Fvz s → PQ (f_X12_street_b31 m v2 s) (fun _ s9 => FlM s0 s9) := by
  induction m with
  | zero => intro v2 s _ r s9 e; cases e
  | succ m ih =>
    intro v2 s h
    unfold f_X12_street_b31
    exact pq_if (fun _ => flm_50 h) (fun _ => pq_if (fun _ => flm_50 h) (fun _ => pq_b (fv_X12_streetPart h) (fun r s2 g => ih r s2 g)))
theorem flm_1 (s : Sg) : PQ (bd (f_X12_refuse 1 s) (fun r s => some (r, s))) (fun _ s9 => FlM s s9) := by
  have q : PQ (some ((-1 : Int32), pI s 0 2 1)) (fun _ s9 => FlM s s9) := pq_s (Or.inr (Or.inr ⟨q_eq, q_ne rfl, q_ne rfl⟩))
  exact q
theorem flm_street (a1 : Int32) (s : Sg) : PQ (f_X12_street a1 s) (fun _ s9 => FlM s s9) := by
  unfold f_X12_street
  refine pq_b (bgm_p a1 900 s) (fun r s2 g => ?_)
  rcases g with ⟨e, es⟩ | ⟨e, h⟩
  · subst es
    rw [e, if_pos rfl]
    exact flm_1 s2
  · rw [e, if_neg (by decide)]
    exact pq_b (ft_X12_plain 1920 s2) (fun _ s6 g6 => flm_31 BIG 1 _ (fv_i (fv_t h g6 rfl) 40 rfl rfl))
theorem flm_77 {s0 s : Sg} (h : Fvz s) : PQ (f_X12_days_b77 s) (fun _ s9 => FlM s0 s9) := by
  unfold f_X12_days_b77
  refine pq_if (fun hz => ?_) (fun hz => flm_t h hz _)
  have z18 : (pI s 1 11 (s.1 1 1931)).1 0 18 = 0 := by rw [q_nc rfl]; exact hz
  refine pq_w (cpd_d _ z18 BIG 110 110 _ rfl (by decide) (by decide) ⟨fun _ _ => rfl, rfl, fun p => by rw [if_neg (by omega)]⟩) (fun r s9 g => Or.inl ?_)
  obtain ⟨t', m, -, e⟩ := g
  have a : t'.1 0 18 = 0 := by rw [m.1 0 (by decide)]; exact z18
  have b : t'.1 0 17 = s.1 0 17 := by rw [m.1 0 (by decide), q_nc rfl]
  rw [e]
  exact ⟨q_eq, by rw [q_ne rfl, q_eq]; exact a, by rw [q_ne rfl, q_ne rfl, b]; exact h.1 hz⟩
theorem flm_57 {s0 s : Sg} (h : Fvz s) : PQ (f_X12_days_b57 s) (fun _ s9 => FlM s0 s9) := by
  unfold f_X12_days_b57
  exact pq_if (fun _ => pq_if (fun _ => flm_77 h) (fun _ => pq_b (fv_X12_fails 2 (by decide) h) (fun _ s14 g => flm_77 g))) (fun _ => flm_77 h)
theorem flm_38 {s0 : Sg} (m : Nat) : ∀ (v2 : Int32) (s : Sg), Fvz s → PQ (f_X12_days_b38 m v2 s) (fun _ s9 => FlM s0 s9) := by
  induction m with
  | zero => intro v2 s _ r s9 e; cases e
  | succ m ih =>
    intro v2 s h
    unfold f_X12_days_b38
    exact pq_if (fun _ => flm_57 h) (fun _ => pq_if (fun _ => flm_57 h) (fun _ => pq_b (fv_X12_dayStep h) (fun r s2 g => ih r s2 g)))
theorem flm_days (a1 : Int32) (s : Sg) : PQ (f_X12_days a1 s) (fun _ s9 => FlM s s9) := by
  unfold f_X12_days
  refine pq_b (bgm_p a1 300 s) (fun r s2 g => ?_)
  rcases g with ⟨e, es⟩ | ⟨e, h⟩
  · subst es
    rw [e, if_pos rfl]
    exact flm_1 s2
  · rw [e, if_neg (by decide)]
    refine pq_n (fun s5 e5 => flm_38 BIG 1 _ ?_)
    rw [e5]
    exact fv_i (fv_i (fv_i h 1 rfl rfl) 42 rfl rfl) 43 rfl rfl
/-- both sides' faults behind a street, days -/
theorem fl_both {s t s' t' : Sg} (h : FlR s t) (c : FlC s s') (m : FlM t t') (e : s'.1 0 15 = t'.1 0 2) (h9 : s'.1 0 15 = 9 → FlR s' t') : FlR s' t' := by
  rcases c with c | c | c
  · rcases m with m | m | m
    · exact ⟨c.2.1.trans m.2.1.symm, c.2.2.trans m.2.2.symm⟩
    · exact h9 (e.trans m)
    · exact absurd (c.1.symm.trans (e.trans m.1)) (by decide)
  · exact h9 c
  · rcases m with m | m | m
    · exact absurd (c.1.symm.trans (e.trans m.1)) (by decide)
    · exact h9 (e.trans m)
    · exact ⟨c.2.1.trans (h.1.trans m.2.1.symm), c.2.2.trans (h.2.trans m.2.2.symm)⟩
/-- a street's answers, its status, what is there then, its fault -/
theorem street_g {sC sM : Sg} (a1 : Int32) (e10 : sC.1 0 13 = sM.1 0 10) (hc : 0 ≤ (sM.1 0 10).toInt ∧ (sM.1 0 10).toInt ≤ 900) (tb : TapB sC sM) (hF : FlR sC sM) : RQ (f_X11_street a1 sC) (f_X12_street a1 sM) (fun r s r' t => (r = r' ∧ s.1 0 15 = t.1 0 2 ∧ (s.1 0 15 = 0 → FreshP s t)) ∧ FlR s t) := by
  have k9 : RQ (f_X11_street a1 sC) (f_X12_street a1 sM) (fun _ s _ t => s.1 0 15 = 9 → FlR s t) := by
    refine street_x a1 e10 hc tb (J := fun _ => True) (fun _ _ _ _ _ _ => trivial) (fun _ _ _ => trivial) (rq_s (fun z => absurd z (by rw [q_eq]; decide))) (fun n s t h _ k => ?_) (fun s t h => ?_)
    · refine rq_bC (ct_x s) (fun _ s10 e => rq_bC (cw_X10_copyFrom_51 s10) (fun _ s14 w => ?_))
      have p : RQ (some (s14.1 25 14, pI s14 0 15 0)) (f_X12_street_b50 t) (fun _ s _ t => s.1 0 15 = 9 → FlR s t) :=
        rq_pp (P := fun _ s => s.1 0 15 = 0) (pq_s q_eq) (swx_50y t h.1.2.1) (fun r s r' t q _ z => absurd (q.symm.trans z) (by decide))
      exact p
    · refine rq_bC (ct_x s) (fun _ s10 e => ?_)
      have p : RQ (some ((-1 : Int32), pI s10 0 15 9)) (f_X12_street_b50 t) (fun _ s _ t => s.1 0 15 = 9 → FlR s t) := by
        have h0 : ¬ t.1 0 18 = 0 := fun z => by
          have h3 := h.2.2
          rw [z] at h3
          exact absurd h3 (by decide)
        refine rq_pp (P := fun _ s => s = pI s10 0 15 9) (pq_s rfl) (swx_50n t h0 (Int.le_of_lt h.2.2)) (fun r u r' v q y _ => ?_)
        rw [q, y.2, e]
        exact ⟨by rw [q_ne rfl, q_ne rfl, q_eq, q_ne rfl, q_eq]; exact h.1, by rw [q_ne rfl, q_eq, q_ne rfl, q_ne rfl]; exact h.2.1⟩
      exact p
  intro r s r' t x y
  have f := street_f a1 e10 hc tb r s r' t x y
  exact ⟨f, fl_both hF (flc_street a1 sC r s x) (flm_street a1 sM r' t y) f.2.1 (k9 r s r' t x y)⟩
theorem days_g {sC sM : Sg} (a1 : Int32) (e10 : sC.1 0 13 = sM.1 0 10) (hc : 0 ≤ (sM.1 0 10).toInt ∧ (sM.1 0 10).toInt ≤ 900) (tb : TapB sC sM) (hP : PlnR 24 sC (sM.1 1)) (hN : NmsR 24 sC (sM.2 2) (sM.1 1)) (hF : FlR sC sM) : RQ (f_X11_days a1 sC) (f_X12_days a1 sM) (fun r s r' t => (r = r' ∧ s.1 0 15 = t.1 0 2 ∧ (s.1 0 15 = 0 → DayP s t)) ∧ FlR s t) := by
  intro r s r' t x y
  have f := days_f a1 e10 hc tb hP hN r s r' t x y
  exact ⟨⟨f.1, f.2.1, f.2.2.1⟩, fl_both hF (flc_days a1 sC r s x) (flm_days a1 sM r' t y) f.2.1 f.2.2.2⟩
/-! plans: the one in use and the marks' ones, on both sides -/
def WpR (o : Nat) (s : Sg) (M : Nat → Int32) (mm : Nat → Int64) : Prop := PlnR (24 + o) s M ∧ PlB M ∧ NmsR (24 + o) s mm M
theorem wp_x {o o' : Nat} {s s' : Sg} {M M' : Nat → Int32} {mm mm' : Nat → Int64} (h : WpR o s M mm) (hs : ∀ i k, (i = 1 ∨ (4 ≤ i ∧ i ≤ 15)) → loW i ≤ k → k < hiW i → s'.1 (24 + o' + i) k = s.1 (24 + o + i) k) (hl : ∀ k, k < 24 → s'.2 (24 + o' + 4) k = s.2 (24 + o + 4) k) (hM : ∀ k, PlP k → M' k = M k) (hm : ∀ k, k < 24 → mm' k = mm k) : WpR o' s' M' mm' := by
  obtain ⟨hp, hb, hn⟩ := h
  have bb := hp.2.1
  refine ⟨pln_g hp (fun k k1 k2 => hs 1 k (Or.inl rfl) (by show 12 ≤ k; omega) (by show k < 20; omega)) (fun i k i1 i2 hk => hs i k (by omega) ?_ ?_) hM, plb_g hb ⟨bb.2.1.2, bb.2.2.1.2, bb.2.2.2.2⟩ hM, nms_cp hn bb (hs 1 12 (Or.inl rfl) (by decide) (by decide)) hl (fun k hk => hs 5 k (by decide) (Nat.zero_le _) hk) (fun k hk => hs 6 k (by decide) (Nat.zero_le _) hk) (fun k hk => hM k (plp_0 (Or.inl hk))) hm⟩
  · unfold loW
    rw [if_neg (by omega), if_neg (by omega), if_neg (by omega)]
    exact Nat.zero_le _
  · unfold hiW
    rw [if_neg (by omega), if_neg (by omega), if_neg (by omega), if_neg (by omega), if_neg (by omega), if_neg (by omega)]
    by_cases z : i ≤ 10
    · rw [if_pos z] at hk ⊢
      exact hk
    · rw [if_neg z] at hk
      rw [if_neg z, if_pos (by omega)]
      exact hk
theorem plp_lt {k : Nat} (h : PlP k) : k < 110 ∧ ¬ k = 11 := by
  rcases h with z | z | z | z | ⟨q', z, z'⟩ | ⟨c', z, z'⟩ | ⟨g', z, z'⟩ <;> omega
def MkR (s t : Sg) : Prop := ∀ j : Nat, (j : Int) < (t.1 0 35).toInt → WpR (54 + 27 * j) s (fun k => t.1 1 (480 * (j + 1) + k)) (fun k => t.2 2 (24 * (j + 1) + k))
def WmR (s t : Sg) : Prop := (WpR 0 s (t.1 1) (t.2 2) ∧ t.1 0 24 = -1) ∧ MkR s t
abbrev MWP : Nat := 356735702584187783952494583683486961092263936
abbrev MWQ : Nat := 356735702584187783952494583683485861815517184
abbrev MPW : Nat := 2535301207538891634590286348294
abbrev MPX : Nat := 2535301200456494831790425374724
theorem and_b {L M b : Nat} (e : L &&& M = 0) (h : M.testBit b = true) : L.testBit b = false := by
  have x : (L &&& M).testBit b = false := by rw [e]; exact Nat.zero_testBit _
  rw [Nat.testBit_and, h, Bool.and_true] at x
  exact x
/-- cells of the class's plans kept -/
def PcK (s s' : Sg) : Prop := ∀ c, ((c = 25 ∨ (28 ≤ c ∧ c ≤ 39)) ∨ (c = 79 ∨ (82 ≤ c ∧ c ≤ 93)) ∨ (c = 106 ∨ (109 ≤ c ∧ c ≤ 120)) ∨ (c = 133 ∨ (136 ≤ c ∧ c ≤ 147))) → s'.1 c = s.1 c ∧ s'.2 c = s.2 c
set_option maxRecDepth 20000 in
theorem mwp_b : ∀ c, c < 148 → ((c = 25 ∨ (28 ≤ c ∧ c ≤ 39)) ∨ (c = 79 ∨ (82 ≤ c ∧ c ≤ 93)) ∨ (c = 106 ∨ (109 ≤ c ∧ c ≤ 120)) ∨ (c = 133 ∨ (136 ≤ c ∧ c ≤ 147))) → MWP.testBit c = true := by decide +kernel
theorem pck_f {L : Nat} {s s' : Sg} (f : Fr cC L s s') (e : L &&& MWP = 0) : PcK s s' := fun c hc => by
  have b : ∀ k, L.testBit (cC c k) = false := fun k => by
    rw [cC_id c k (by omega) (by omega) (by omega) (by omega) (by omega)]
    exact and_b e (mwp_b c (by omega) hc)
  exact ⟨funext fun k => (f c k (b k)).1, funext fun k => (f c k (b k)).2⟩
def PcM (s s' : Sg) : Prop := ∀ c, ((c = 79 ∨ (82 ≤ c ∧ c ≤ 93)) ∨ (c = 106 ∨ (109 ≤ c ∧ c ≤ 120)) ∨ (c = 133 ∨ (136 ≤ c ∧ c ≤ 147))) → s'.1 c = s.1 c ∧ s'.2 c = s.2 c
theorem pcm_k {s s' : Sg} (h : PcK s s') : PcM s s' := fun c hc => h c (Or.inr hc)
set_option maxRecDepth 20000 in
theorem mwq_b : ∀ c, c < 148 → ((c = 79 ∨ (82 ≤ c ∧ c ≤ 93)) ∨ (c = 106 ∨ (109 ≤ c ∧ c ≤ 120)) ∨ (c = 133 ∨ (136 ≤ c ∧ c ≤ 147))) → MWQ.testBit c = true := by decide +kernel
theorem pcm_f {L : Nat} {s s' : Sg} (f : Fr cC L s s') (e : L &&& MWQ = 0) : PcM s s' := fun c hc => by
  have b : ∀ k, L.testBit (cC c k) = false := fun k => by
    rw [cC_id c k (by omega) (by omega) (by omega) (by omega) (by omega)]
    exact and_b e (mwq_b c (by omega) hc)
  exact ⟨funext fun k => (f c k (b k)).1, funext fun k => (f c k (b k)).2⟩
/-- the reference's plan in use kept -/
def PmK (t t' : Sg) : Prop := (∀ k, PlP k → t'.1 1 k = t.1 1 k) ∧ (∀ k, k < 24 → t'.2 2 k = t.2 2 k) ∧ t'.1 0 24 = t.1 0 24
/-- and its marks -/
def PnK (t t' : Sg) : Prop := (∀ p, 480 ≤ p → p < 1920 → t'.1 1 p = t.1 1 p) ∧ (∀ k, 24 ≤ k → k < 96 → t'.2 2 k = t.2 2 k) ∧ t'.1 0 35 = t.1 0 35
theorem cd_lo {p : Nat} (h : p < 13) : cdM 1 p = 60 + p := by rw [cdM_x, if_pos h]
theorem cd_mi {p : Nat} (h : 13 ≤ p) (h2 : p < 110) : cdM 1 p = 1 := by rw [cdM_x, if_neg (by omega), if_pos h2]
theorem cd_mk {p : Nat} (h : 480 ≤ p) (h2 : p < 1920) : cdM 1 p = 101 := by rw [cdM_x, if_neg (by omega), if_neg (by omega), if_neg (by omega), if_pos h2]
theorem pm_b : ∀ p, p < 13 → ¬ p = 11 → MPW.testBit (60 + p) = true := by decide
theorem fm_2 {L : Nat} {t t' : Sg} (f : Fr cdM L t t') (e : L.testBit 2 = false) (k : Nat) : t'.2 2 k = t.2 2 k := fr_e2 f 2 k 2 rfl e
theorem pmk_f {L : Nat} {t t' : Sg} (f : Fr cdM L t t') (e : L &&& MPW = 0) (h : L.testBit 44 = false) : PmK t t' := by
  refine ⟨fun k hk => ?_, fun k _ => fm_2 f (and_b e (by decide)) k, fr_e f 0 24 44 rfl h⟩
  have w := plp_lt hk
  by_cases z : k < 13
  · exact fr_e f 1 k (60 + k) (cd_lo z) (and_b e (pm_b k z w.2))
  · exact fr_e f 1 k 1 (cd_mi (by omega) w.1) (and_b e (by decide))
theorem pnk_f {L : Nat} {t t' : Sg} (f : Fr cdM L t t') (e : L &&& MPX = 0) : PnK t t' :=
  ⟨fun p h1 h2 => fr_e f 1 p 101 (cd_mk h1 h2) (and_b e (by decide)), fun k _ _ => fm_2 f (and_b e (by decide)) k, fr_e f 0 35 55 rfl (and_b e (by decide))⟩
theorem wp_pk {o : Nat} {s s' : Sg} {M M' : Nat → Int32} {mm mm' : Nat → Int64} (h : WpR o s M mm) (ho : o = 0 ∨ o = 54 ∨ o = 81 ∨ o = 108) (c : PcK s s') (hM : ∀ k, PlP k → M' k = M k) (hm : ∀ k, k < 24 → mm' k = mm k) : WpR o s' M' mm' :=
  wp_x h (fun i k hi _ _ => by rw [(c (24 + o + i) (by omega)).1]) (fun k _ => by rw [(c (24 + o + 4) (by omega)).2]) hM hm
theorem mk_pk {s t s' t' : Sg} (r : (t.1 0 35).toInt ≤ 3) (h : MkR s t) (c : PcM s s') (m : PnK t t') : MkR s' t' := fun j hj => by
  rw [m.2.2] at hj
  have w : j = 0 ∨ j = 1 ∨ j = 2 := by omega
  refine wp_x (h j hj) (fun i k hi _ _ => by rw [(c (24 + (54 + 27 * j) + i) (by omega)).1]) (fun k _ => by rw [(c (24 + (54 + 27 * j) + 4) (by omega)).2]) (fun k hk => m.1 _ (by omega) (by have := (plp_lt hk).1; omega)) (fun k hk => m.2.1 _ (by omega) (by omega))
/-- both kept -/
theorem wm_k {s t s' t' : Sg} (r : (t.1 0 35).toInt ≤ 3) (h : WmR s t) (c : PcK s s') (m : PmK t t') (n : PnK t t') : WmR s' t' :=
  ⟨⟨wp_pk h.1.1 (Or.inl rfl) c m.1 m.2.1, m.2.2.trans h.1.2⟩, mk_pk r h.2 (pcm_k c) n⟩
/-! marks -/
theorem inr_b {i : Int32} {n : Nat} (h : inr i n) : 0 ≤ i.toInt ∧ i.toInt < (n : Int) := by
  have a : ¬ i < 0 := fun z => h (Or.inl z)
  have b : ¬ n ≤ i.toNatClampNeg := fun z => h (Or.inr z)
  have a := i_nlt a
  have c := cl_nat i
  have e0 : (0 : Int32).toInt = 0 := rfl
  omega
def CpX (b d : Nat) (s s9 : Sg) : Prop := (∀ c, ¬ c = 0 → ¬ (d + 1 ≤ c ∧ c ≤ d + 26) → s9.1 c = s.1 c ∧ s9.2 c = s.2 c) ∧ (∀ i k, 1 ≤ i → i ≤ 26 → loW i ≤ k → k < hiW i → s9.1 (d + i) k = s.1 (b + i) k) ∧ (∀ k, k < 24 → s9.2 (d + 4) k = s.2 (b + 4) k)
theorem cpx_w {b d : Nat} {s0 s s3 s9 : Sg} (w : CpW b d s s3) (hs : ∀ c, ¬ c = 0 → s.1 c = s0.1 c) (hs2 : s.2 = s0.2) (e : ∀ c, ¬ c = 0 → s9.1 c = s3.1 c) (e2 : s9.2 = s3.2) : CpX b d s0 s9 :=
  ⟨fun c h0 h => ⟨by rw [e c h0, (w.1 c h).1, hs c h0], by rw [e2, (w.1 c h).2, hs2]⟩, fun i k i1 i2 k1 k2 => by rw [e _ (by omega), w.2.1 i k i1 i2 k1 k2, hs _ (by omega)], fun k hk => by rw [e2, w.2.2 k hk, hs2]⟩
def McW (s s9 : Sg) : Prop := (¬ (s.1 0 14).toInt < 3 ∧ ∀ c, ¬ c = 0 → s9.1 c = s.1 c ∧ s9.2 c = s.2 c) ∨ ∃ j : Nat, j < 3 ∧ (s.1 0 14).toInt = (j : Int) ∧ CpX 24 (78 + 27 * j) s s9
theorem mark_w (s : Sg) : PQ (f_X11_mark s) (fun _ s9 => McW s s9) := by
  have e3 : (3 : Int32).toInt = 3 := rfl
  have z0 : (0 : Int32).toInt = 0 := rfl
  have z1 : (1 : Int32).toInt = 1 := rfl
  have fin : ∀ (j : Nat) (s3 : Sg), j < 3 → (s.1 0 14).toInt = (j : Int) → CpW 24 (78 + 27 * j) s s3 → PQ (bd (f_X11_answer ((pI s3 0 14 ((s3.1 0 14) + 1)).1 0 14) (pI s3 0 14 ((s3.1 0 14) + 1))) (fun r s => some (r, s))) (fun _ s9 => McW s s9) := fun j s3 hj hk w => by
    have q : PQ (some ((pI s3 0 14 ((s3.1 0 14) + 1)).1 0 14, pI (pI s3 0 14 ((s3.1 0 14) + 1)) 0 15 0)) (fun _ s9 => McW s s9) := pq_s (Or.inr ⟨j, hj, hk, cpx_w w (fun _ _ => rfl) rfl (fun c hc => by rw [pI_o _ _ _ _ _ hc, pI_o _ _ _ _ _ hc]) rfl⟩)
    exact q
  unfold f_X11_mark
  refine pq_if (fun c => pq_c (fun ir => ?_)) (fun c => ?_)
  · have c := i_lt c
    have ir := inr_b ir
    unfold sel3
    refine pq_if (fun d => pq_b (cw_X10_copyFrom_24_78 s) (fun _ s3 w => fin 0 s3 (by decide) ?_ w)) (fun d => pq_if (fun f => pq_b (cw_X10_copyFrom_24_105 s) (fun _ s3 w => fin 1 s3 (by decide) ?_ w)) (fun f => pq_b (cw_X10_copyFrom_24_132 s) (fun _ s3 w => fin 2 s3 (by decide) ?_ w)))
    · rw [d]; rfl
    · rw [f]; rfl
    · have n0 : ¬ (s.1 0 14).toInt = 0 := fun z => d (Int32.toInt_inj.mp (z.trans (show (0 : Int) = (nI 0).toInt from rfl)))
      have n1 : ¬ (s.1 0 14).toInt = 1 := fun z => f (Int32.toInt_inj.mp (z.trans (show (1 : Int) = (nI 1).toInt from rfl)))
      omega
  · have c := i_nlt c
    have q : PQ (some ((-1 : Int32), pI s 0 15 4)) (fun _ s9 => McW s s9) := pq_s (Or.inl ⟨by omega, fun c hc => ⟨pI_o _ _ _ _ _ hc, rfl⟩⟩)
    exact q
def BcW (s s9 : Sg) : Prop := (¬ 0 < (s.1 0 14).toInt ∧ ∀ c, ¬ c = 0 → s9.1 c = s.1 c ∧ s9.2 c = s.2 c) ∨ ∃ j : Nat, j < 3 ∧ (s.1 0 14).toInt = (j : Int) + 1 ∧ CpX (78 + 27 * j) 24 s s9
theorem back_w (s : Sg) : PQ (f_X11_back s) (fun _ s9 => BcW s s9) := by
  have e0 : (0 : Int32).toInt = 0 := rfl
  have e1 : (1 : Int32).toInt = 1 := rfl
  have fin : ∀ (j : Nat) (s3 : Sg), j < 3 → (s.1 0 14).toInt = (j : Int) + 1 → CpW (78 + 27 * j) 24 (pI s 0 14 ((s.1 0 14) - 1)) s3 → PQ (bd (f_X11_answer (s3.1 0 14) s3) (fun r s => some (r, s))) (fun _ s9 => BcW s s9) := fun j s3 hj hk w => by
    have q : PQ (some (s3.1 0 14, pI s3 0 15 0)) (fun _ s9 => BcW s s9) := pq_s (Or.inr ⟨j, hj, hk, cpx_w w (fun c hc => pI_o _ _ _ _ _ hc) rfl (fun c hc => pI_o _ _ _ _ _ hc) rfl⟩)
    exact q
  unfold f_X11_back
  refine pq_if (fun c => pq_c (fun ir => ?_)) (fun c => ?_)
  · have c := i_lt c
    rw [q_eq] at ir ⊢
    have sb := i_sub (s.1 0 14) 1
    have rg := i_rg (s.1 0 14)
    have ir := inr_b ir
    unfold sel3
    refine pq_if (fun d => pq_b (cw_X10_copyFrom_78 _) (fun _ s3 w => fin 0 s3 (by decide) ?_ w)) (fun d => pq_if (fun f => pq_b (cw_X10_copyFrom_105 _) (fun _ s3 w => fin 1 s3 (by decide) ?_ w)) (fun f => pq_b (cw_X10_copyFrom_132 _) (fun _ s3 w => fin 2 s3 (by decide) ?_ w)))
    · have d : ((s.1 0 14) - 1).toInt = 0 := by rw [d]; rfl
      omega
    · have f : ((s.1 0 14) - 1).toInt = 1 := by rw [f]; rfl
      omega
    · have n0 : ¬ ((s.1 0 14) - 1).toInt = 0 := fun z => d (Int32.toInt_inj.mp (z.trans (show (0 : Int) = (nI 0).toInt from rfl)))
      have n1 : ¬ ((s.1 0 14) - 1).toInt = 1 := fun z => f (Int32.toInt_inj.mp (z.trans (show (1 : Int) = (nI 1).toInt from rfl)))
      omega
  · have c := i_nlt c
    have q : PQ (some ((-1 : Int32), pI s 0 15 6)) (fun _ s9 => BcW s s9) := pq_s (Or.inl ⟨by omega, fun c hc => ⟨pI_o _ _ _ _ _ hc, rfl⟩⟩)
    exact q
def MmW (t t9 : Sg) : Prop := ((t.1 0 35).toInt = 3 ∧ t9.1 1 = t.1 1 ∧ t9.2 = t.2 ∧ t9.1 0 35 = t.1 0 35 ∧ t9.1 0 24 = t.1 0 24) ∨ ∃ j : Nat, j < 3 ∧ (t.1 0 35).toInt = (j : Int) ∧ (t9.1 0 35).toInt = (j : Int) + 1 ∧ t9.1 0 24 = t.1 0 24 ∧ CpJ (480 * 0) (480 * (j + 1)) 480 (t.1 1) (t9.1 1) ∧ CpJ (24 * 0) (24 * (j + 1)) 24 (t.2 2) (t9.2 2)
theorem mark_wm (t : Sg) (r : 0 ≤ (t.1 0 35).toInt ∧ (t.1 0 35).toInt ≤ 3) : PQ (f_X12_mark t) (fun _ t9 => MmW t t9) := by
  have e3 : (3 : Int32).toInt = 3 := rfl
  have e1 : (1 : Int32).toInt = 1 := rfl
  have e0 : (0 : Int32).toInt = 0 := rfl
  unfold f_X12_mark
  refine pq_if (fun c => ?_) (fun c => ?_)
  · have c := i_eq c
    have q : PQ (some ((-1 : Int32), pI t 0 2 4)) (fun _ t9 => MmW t t9) := pq_s (Or.inl ⟨by omega, pI_o _ _ _ _ _ (by decide), rfl, q_ne rfl, q_ne rfl⟩)
    exact q
  · have c := i_ne c
    rw [q_eq]
    have a1 : ((t.1 0 35) + 1).toInt = (t.1 0 35).toInt + 1 := i_addx _ _ (by omega)
    have hj : (t.1 0 35).toInt = ((t.1 0 35).toInt.toNat : Int) := by omega
    refine pq_b (copies_m 0 ((t.1 0 35) + 1) 0 ((t.1 0 35).toInt.toNat + 1) rfl (by omega) (by decide) (by omega) (by omega) _) (fun _ t4 m => ?_)
    have q : PQ (some (t4.1 0 35, pI t4 0 2 0)) (fun _ t9 => MmW t t9) := by
      refine pq_s (Or.inr ⟨(t.1 0 35).toInt.toNat, by omega, hj, ?_, ?_, ?_, ?_⟩)
      · rw [q_ne rfl, m.2.2.1 0 (by decide), q_eq]
        omega
      · rw [q_ne rfl, m.2.2.1 0 (by decide), q_ne rfl]
      · rw [pI_o _ _ _ _ _ (by decide)]
        have x := m.1
        rw [pI_o _ _ _ _ _ (by decide)] at x
        exact x
      · exact m.2.1
    exact q
def BmW (t t9 : Sg) : Prop := ((t.1 0 35).toInt = 0 ∧ t9.1 1 = t.1 1 ∧ t9.2 = t.2 ∧ t9.1 0 35 = t.1 0 35 ∧ t9.1 0 24 = t.1 0 24) ∨ ∃ j : Nat, j < 3 ∧ (t.1 0 35).toInt = (j : Int) + 1 ∧ (t9.1 0 35).toInt = (j : Int) ∧ t9.1 0 24 = t.1 0 24 ∧ CpJ (480 * (j + 1)) (480 * 0) 480 (t.1 1) (t9.1 1) ∧ CpJ (24 * (j + 1)) (24 * 0) 24 (t.2 2) (t9.2 2)
theorem back_wm (t : Sg) (r : 0 ≤ (t.1 0 35).toInt ∧ (t.1 0 35).toInt ≤ 3) : PQ (f_X12_back t) (fun _ t9 => BmW t t9) := by
  have e1 : (1 : Int32).toInt = 1 := rfl
  have e0 : (0 : Int32).toInt = 0 := rfl
  unfold f_X12_back
  refine pq_if (fun c => ?_) (fun c => ?_)
  · have c := i_eq c
    have q : PQ (some ((-1 : Int32), pI t 0 2 6)) (fun _ t9 => BmW t t9) := pq_s (Or.inl ⟨by omega, pI_o _ _ _ _ _ (by decide), rfl, q_ne rfl, q_ne rfl⟩)
    exact q
  · have c := i_ne c
    have hj : (t.1 0 35).toInt = (((t.1 0 35).toInt.toNat - 1 + 1 : Nat) : Int) := by omega
    refine pq_b (copies_m (t.1 0 35) 0 ((t.1 0 35).toInt.toNat - 1 + 1) 0 hj rfl (by omega) (by decide) (by omega) t) (fun _ t4 m => ?_)
    have e35 : t4.1 0 35 = t.1 0 35 := by rw [m.2.2.1 0 (by decide)]
    have sb := i_sub (t.1 0 35) 1
    have rg := i_rg (t.1 0 35)
    have q : PQ (some ((pI t4 0 35 ((t4.1 0 35) - 1)).1 0 35, pI (pI t4 0 35 ((t4.1 0 35) - 1)) 0 2 0)) (fun _ t9 => BmW t t9) := by
      refine pq_s (Or.inr ⟨(t.1 0 35).toInt.toNat - 1, by omega, by omega, ?_, ?_, ?_, ?_⟩)
      · rw [q_ne rfl, q_eq, e35]
        omega
      · rw [q_ne rfl, q_ne rfl, m.2.2.1 0 (by decide)]
      · rw [pI_o _ _ _ _ _ (by decide), pI_o _ _ _ _ _ (by decide)]
        exact m.1
      · exact m.2.1
    exact q
theorem wm_mark {s t s' t' : Sg} (r : 0 ≤ (t.1 0 35).toInt ∧ (t.1 0 35).toInt ≤ 3) (h : WmR s t) (e14 : s.1 0 14 = t.1 0 35) (c : McW s s') (m : MmW t t') : WmR s' t' := by
  rw [McW, e14] at c
  rcases c with ⟨c1, c2⟩ | ⟨j, j3, c1, c2⟩ <;> rcases m with ⟨m1, m2, m3, m4, m5⟩ | ⟨i, i3, m1, m2, m3, m4, m5⟩
  · refine wm_k r.2 h (fun c hc => c2 c (by omega)) ⟨fun k _ => by rw [m2], fun k _ => by rw [m3], m5⟩ ⟨fun k _ _ => by rw [m2], fun k _ _ => by rw [m3], m4⟩
  · omega
  · omega
  · have ij : i = j := by omega
    subst ij
    refine ⟨⟨wp_x h.1.1 (fun x k hx _ _ => by rw [(c2.1 (24 + 0 + x) (by omega) (by omega)).1]) (fun k _ => by rw [(c2.1 (24 + 0 + 4) (by omega) (by omega)).2]) (fun k hk => m4.2 k (by have := (plp_lt hk).1; omega)) (fun k hk => m5.2 k (by omega)), m3.trans h.1.2⟩, fun j hj => ?_⟩
    by_cases z : j = i
    · subst z
      refine wp_x h.1.1 (fun x k hx k1 k2 => ?_) (fun k hk => ?_) (fun k hk => ?_) (fun k hk => ?_)
      · have w := c2.2.1 x k (by omega) (by omega) k1 k2
        rw [show 24 + (54 + 27 * j) + x = 78 + 27 * j + x by omega]
        exact w
      · have w := c2.2.2 k hk
        rw [show 24 + (54 + 27 * j) + 4 = 78 + 27 * j + 4 by omega]
        exact w
      · have w := m4.1 k (by have := (plp_lt hk).1; omega)
        rw [show 480 * 0 + k = k by omega] at w
        exact w
      · have w := m5.1 k hk
        rw [show 24 * 0 + k = k by omega] at w
        exact w
    · refine wp_x (h.2 j (by omega)) (fun x k hx _ _ => by rw [(c2.1 (24 + (54 + 27 * j) + x) (by omega) (by omega)).1]) (fun k _ => by rw [(c2.1 (24 + (54 + 27 * j) + 4) (by omega) (by omega)).2]) (fun k hk => m4.2 _ (by have := (plp_lt hk).1; omega)) (fun k hk => m5.2 _ (by omega))
theorem wm_back {s t s' t' : Sg} (r : 0 ≤ (t.1 0 35).toInt ∧ (t.1 0 35).toInt ≤ 3) (h : WmR s t) (e14 : s.1 0 14 = t.1 0 35) (c : BcW s s') (m : BmW t t') : WmR s' t' := by
  rw [BcW, e14] at c
  rcases c with ⟨c1, c2⟩ | ⟨j, j3, c1, c2⟩ <;> rcases m with ⟨m1, m2, m3, m4, m5⟩ | ⟨i, i3, m1, m2, m3, m4, m5⟩
  · refine wm_k r.2 h (fun c hc => c2 c (by omega)) ⟨fun k _ => by rw [m2], fun k _ => by rw [m3], m5⟩ ⟨fun k _ _ => by rw [m2], fun k _ _ => by rw [m3], m4⟩
  · omega
  · omega
  · have ij : i = j := by omega
    subst ij
    refine ⟨⟨wp_x (h.2 i (by omega)) (fun x k hx k1 k2 => ?_) (fun k hk => ?_) (fun k hk => ?_) (fun k hk => ?_), m3.trans h.1.2⟩, fun j hj => ?_⟩
    · have w := c2.2.1 x k (by omega) (by omega) k1 k2
      rw [show 24 + (54 + 27 * i) + x = 78 + 27 * i + x by omega]
      exact w
    · have w := c2.2.2 k hk
      rw [show 24 + (54 + 27 * i) + 4 = 78 + 27 * i + 4 by omega]
      exact w
    · have w := m4.1 k (by have := (plp_lt hk).1; omega)
      rw [show 480 * 0 + k = k by omega] at w
      exact w
    · have w := m5.1 k hk
      rw [show 24 * 0 + k = k by omega] at w
      exact w
    · refine wp_x (h.2 j (by omega)) (fun x k hx _ _ => by rw [(c2.1 (24 + (54 + 27 * j) + x) (by omega) (by omega)).1]) (fun k _ => by rw [(c2.1 (24 + (54 + 27 * j) + 4) (by omega) (by omega)).2]) (fun k hk => m4.2 _ (by have := (plp_lt hk).1; omega)) (fun k hk => m5.2 _ (by omega))
/-! a street: what it leaves -/
theorem nm_31 {s0 : Sg} (m : Nat) : ∀ (v2 : Int32) (s : Sg), Rg rM s → NLp s0 s → PQ (f_X12_street_b31 m v2 s) (fun _ s9 => ∀ k, 24 ≤ k → k < 96 → s9.2 2 k = s0.2 2 k) := by
  induction m with
  | zero => intro v2 s _ _ r s' e; cases e
  | succ m ih =>
    intro v2 s hR h
    have fin : PQ (f_X12_street_b50 s) (fun _ s9 => ∀ k, 24 ≤ k → k < 96 → s9.2 2 k = s0.2 2 k) := by
      by_cases hz : s.1 0 18 = 0
      · refine pq_w (swx_50y s hz) (fun r s9 g k k1 k2 => ?_)
        obtain ⟨s', m, -, e⟩ := g
        rw [e]
        exact (m.2.1.2 k (by omega)).trans (h k k2)
      · unfold f_X12_street_b50
        rw [if_neg hz]
        refine pq_b (taken_p _ s) (fun r s9 g => pq_s (fun k k1 k2 => ?_))
        rcases g with g | g
        · rw [g.2.2]
          exact h k k2
        · rw [g.2.2]
          exact h k k2
    unfold f_X12_street_b31
    refine pq_if (fun _ => fin) (fun _ => pq_if (fun _ => fin) (fun _ => ?_))
    exact pq_b (pq_and (pq_o (h_X12_streetPart hR)) (nl_part (cnt_n hR) h)) (fun r s2 g => ih r s2 g.1.1.1 g.2)
set_option maxRecDepth 20000 in
theorem nm_street (a1 : Int32) {s : Sg} (hR : Rg rM s) : PQ (f_X12_street a1 s) (fun _ s9 => ∀ k, 24 ≤ k → k < 96 → s9.2 2 k = s.2 2 k) := by
  unfold f_X12_street
  refine pq_b (pq_and (pq_o (h_X12_begins a1 900 hR (by decide))) (ft_X12_begins a1 900 s)) (fun r s2 g => ?_)
  have n2 : s2.2 2 = s.2 2 := funext fun k => fr_e2 g.2 2 k 2 rfl rfl
  refine pq_if (fun _ => ?_) (fun _ => ?_)
  · have w : PQ (some ((-1 : Int32), pI s2 0 2 1)) (fun _ s9 => ∀ k, 24 ≤ k → k < 96 → s9.2 2 k = s.2 2 k) := pq_s (fun k _ _ => by show s2.2 2 k = _; rw [n2])
    exact w
  · refine pq_b (pq_and (pq_o (h_X12_plain 1920 g.1.1.1 (by decide))) (pln_p s2)) (fun _ s6 g6 => ?_)
    have R6 : Rg rM (pI s6 0 20 0) := (show JM 1099511627776 s6 (pI s6 0 20 0) from j_wr 0 3 (j_refl g6.1.1.1) rfl 40 rfl rfl (by decide)).1
    refine nm_31 BIG 1 (pI s6 0 20 0) R6 (fun p _ => ?_)
    show s6.2 2 p = _
    rw [g6.2.2.2.2, n2]
theorem wm_street {L : Nat} {s t s' t' : Sg} (r : (t.1 0 35).toInt ≤ 3) (h : WmR s t) (fc : Fr cC L s s') (hL : L &&& MWQ = 0) (kc : KpC0 s s') (km : KpM0 t t') (nm : ∀ k, 24 ≤ k → k < 96 → t'.2 2 k = t.2 2 k) (m1 : ∀ p, 480 ≤ p → p < 1920 → t'.1 1 p = t.1 1 p) (m35 : t'.1 0 35 = t.1 0 35) (m24 : t'.1 0 24 = t.1 0 24) (es : s'.1 0 15 = t'.1 0 2) (fr : s'.1 0 15 = 0 → FreshP s' t') : WmR s' t' := by
  refine ⟨⟨?_, m24.trans h.1.2⟩, mk_pk r h.2 (pcm_f fc hL) ⟨m1, nm, m35⟩⟩
  by_cases z : s'.1 0 15 = 0
  · have f := fr z
    exact ⟨f.1.1.1, f.1.2.2.1, f.2.2.1⟩
  · have c := kc.elim (fun y => absurd y z) id
    have m := km.elim (fun y => absurd (es.trans y) z) id
    exact wp_x h.1.1 (fun i k hi _ _ => by rw [(c (24 + 0 + i) (by omega)).1]) (fun k _ => by rw [(c (24 + 0 + 4) (by omega)).2]) (fun k hk => m.1 k (by have := (plp_lt hk).1; omega)) (fun k hk => m.2 k (by omega))
theorem pmk_24 {L : Nat} {t t' : Sg} (f : Fr cdM L t t') (e : L &&& MPW = 0) (h : t'.1 0 24 = t.1 0 24) : PmK t t' := by
  refine ⟨fun k hk => ?_, fun k _ => fm_2 f (and_b e (by decide)) k, h⟩
  have w := plp_lt hk
  by_cases z : k < 13
  · exact fr_e f 1 k (60 + k) (cd_lo z) (and_b e (pm_b k z w.2))
  · exact fr_e f 1 k 1 (cd_mi (by omega) w.1) (and_b e (by decide))
theorem fl_f {L L2 : Nat} {s t s' t' : Sg} (h : FlR s t) (f : Fr cC L s s') (g : Fr cdM L2 t t') (a : L.testBit 178 = false) (b : L.testBit 179 = false) (c : L2.testBit 36 = false) (d : L2.testBit 37 = false) : FlR s' t' := ⟨(fr_e f 0 18 178 rfl a).trans (h.1.trans (fr_e g 0 16 36 rfl c).symm), (fr_e f 0 19 179 rfl b).trans (h.2.trans (fr_e g 0 17 37 rfl d).symm)⟩
/-! what more of the reference leaves alone: printed by genM.py -/
theorem ft_X12_is (a1 : Int32) (s : Sg) : PQ (f_X12_is a1 s) (fun _ s9 => Fr cdN 4194304 s s9) := by
  have hJ : Fr cdN 4194304 s s := fr_r
  unfold f_X12_is
  refine pq_if (fun _ => ?_) (fun _ => ?_)
  · exact pq_s (fr_i hJ 22 rfl rfl)
  · exact pq_s (fr_i hJ 22 rfl rfl)
theorem ft_X12_quarrelRow (a0 : Int32) (s : Sg) : PQ (f_X12_quarrelRow a0 s) (fun _ s9 => Fr cdN 0 s s9) := by
  have hJ : Fr cdN 0 s s := fr_r
  unfold f_X12_quarrelRow
  exact pq_s hJ
theorem ft_X12_quarrelHouse (a0 : Int32) (a1 : Int32) (s : Sg) : PQ (f_X12_quarrelHouse a0 a1 s) (fun _ s9 => Fr cdN 0 s s9) := by
  have hJ : Fr cdN 0 s s := fr_r
  unfold f_X12_quarrelHouse
  refine pq_b (ft_X12_quarrelRow _ _) (fun _ s2 gs2 => ?_)
  have js2 := fr_t hJ gs2 rfl
  exact pq_s js2
theorem ft_X12_isAt (a1 : Int32) (a2 : Int32) (s : Sg) : PQ (f_X12_isAt a1 a2 s) (fun _ s9 => Fr cdN 0 s s9) := by
  have hJ : Fr cdN 0 s s := fr_r
  unfold f_X12_isAt
  refine pq_b (ft_X12_quarrelHouse _ _ _) (fun _ s2 gs2 => ?_)
  have js2 := fr_t hJ gs2 rfl
  refine pq_c (fun _ => ?_)
  refine pq_if (fun _ => ?_) (fun _ => ?_)
  · exact pq_s js2
  · refine pq_b (ft_X12_quarrelHouse _ _ _) (fun _ s5 gs5 => ?_)
    have js5 := fr_t js2 gs5 rfl
    refine pq_c (fun _ => ?_)
    refine pq_if (fun _ => ?_) (fun _ => ?_)
    · exact pq_s js5
    · exact pq_s js5
theorem ft_X12_houseRow (a0 : Int32) (s : Sg) : PQ (f_X12_houseRow a0 s) (fun _ s9 => Fr cdN 0 s s9) := by
  have hJ : Fr cdN 0 s s := fr_r
  unfold f_X12_houseRow
  exact pq_s hJ
theorem ft_X12_isHouse (a1 : Int32) (s : Sg) : PQ (f_X12_isHouse a1 s) (fun _ s9 => Fr cdN 0 s s9) := by
  have hJ : Fr cdN 0 s s := fr_r
  unfold f_X12_isHouse
  refine pq_if (fun _ => ?_) (fun _ => ?_)
  · exact pq_s hJ
  · refine pq_if (fun _ => ?_) (fun _ => ?_)
    · exact pq_s hJ
    · exact pq_s hJ
theorem ft_X12_wrongStep (a1 : Int32) (s : Sg) : PQ (f_X12_wrongStep a1 s) (fun _ s9 => Fr cdN 0 s s9) := by
  have hJ : Fr cdN 0 s s := fr_r
  unfold f_X12_wrongStep
  refine pq_b (ft_X12_isHouse _ _) (fun _ s2 gs2 => ?_)
  have js2 := fr_t hJ gs2 rfl
  refine pq_if (fun _ => ?_) (fun _ => ?_)
  · exact pq_s js2
  · refine pq_b (ft_X12_isGone _ _) (fun _ s4 gs4 => ?_)
    have js4 := fr_t js2 gs4 rfl
    refine pq_if (fun _ => ?_) (fun _ => ?_)
    · exact pq_s js4
    · exact pq_s js4
theorem ft_X12_isQuarrel (a1 : Int32) (s : Sg) : PQ (f_X12_isQuarrel a1 s) (fun _ s9 => Fr cdN 0 s s9) := by
  have hJ : Fr cdN 0 s s := fr_r
  unfold f_X12_isQuarrel
  refine pq_if (fun _ => ?_) (fun _ => ?_)
  · exact pq_s hJ
  · refine pq_if (fun _ => ?_) (fun _ => ?_)
    · exact pq_s hJ
    · exact pq_s hJ
theorem ft_X12_grainsOn (a1 : Int32) (s : Sg) : PQ (f_X12_grainsOn a1 s) (fun _ s9 => Fr cdN 0 s s9) := by
  have hJ : Fr cdN 0 s s := fr_r
  unfold f_X12_grainsOn
  refine pq_b (ft_X12_houseRow _ _) (fun _ s2 gs2 => ?_)
  have js2 := fr_t hJ gs2 rfl
  refine pq_c (fun _ => ?_)
  refine pq_b (ft_X12_houseRow _ _) (fun _ s5 gs5 => ?_)
  have js5 := fr_t js2 gs5 rfl
  refine pq_c (fun _ => ?_)
  exact pq_s js5
theorem ft_X12_needOf (a1 : Int32) (s : Sg) : PQ (f_X12_needOf a1 s) (fun _ s9 => Fr cdN 0 s s9) := by
  have hJ : Fr cdN 0 s s := fr_r
  unfold f_X12_needOf
  refine pq_if (fun _ => ?_) (fun _ => ?_)
  · exact pq_s hJ
  · refine pq_b (ft_X12_quarrelRow _ _) (fun _ s2 gs2 => ?_)
    have js2 := fr_t hJ gs2 rfl
    refine pq_c (fun _ => ?_)
    exact pq_s js2
theorem ft_X12_hasAt_b27 {s0 : Sg} (n : Nat) : ∀ (v1 : Int32) (v2 : Int32) (v3 : Int32) (v4 : Int32) (s : Sg), Fr cdN 0 s0 s → PQ (f_X12_hasAt_b27 n v1 v2 v3 v4 s) (fun _ s9 => Fr cdN 0 s0 s9) := by
  induction n with
  | zero => intro v1 v2 v3 v4 s _ r s9 e; cases e
  | succ n ih =>
    intro v1 v2 v3 v4 s hJ
    unfold f_X12_hasAt_b27
    refine pq_if (fun _ => ?_) (fun _ => ?_)
    · refine pq_b (ft_X12_needOf _ _) (fun _ s7 gs7 => ?_)
      have js7 := fr_t hJ gs7 rfl
      exact pq_s js7
    · refine pq_b (ft_X12_isAt _ _ _) (fun _ s9 gs9 => ?_)
      have js9 := fr_t hJ gs9 rfl
      refine pq_if (fun _ => ?_) (fun _ => ?_)
      · exact ih _ _ _ _ _ js9
      · refine pq_b (ft_X12_needOf _ _) (fun _ s11 gs11 => ?_)
        have js11 := fr_t js9 gs11 rfl
        refine pq_n (fun x12 _ => ?_)
        exact ih _ _ _ _ _ js11
theorem ft_X12_hasAt (a1 : Int32) (a2 : Int32) (s : Sg) : PQ (f_X12_hasAt a1 a2 s) (fun _ s9 => Fr cdN 0 s s9) := by
  have hJ : Fr cdN 0 s s := fr_r
  unfold f_X12_hasAt
  refine pq_b (ft_X12_houseRow _ _) (fun _ s2 gs2 => ?_)
  have js2 := fr_t hJ gs2 rfl
  refine pq_c (fun _ => ?_)
  refine pq_if (fun _ => ?_) (fun _ => ?_)
  · refine pq_b (ft_X12_grainsOn _ _) (fun _ s5 gs5 => ?_)
    have js5 := fr_t js2 gs5 rfl
    exact ft_X12_hasAt_b27 BIG _ _ _ _ _ js5
  · exact ft_X12_hasAt_b27 BIG _ _ _ _ _ js2
theorem ft_X12_isFull (a1 : Int32) (a2 : Int32) (s : Sg) : PQ (f_X12_isFull a1 a2 s) (fun _ s9 => Fr cdN 0 s s9) := by
  have hJ : Fr cdN 0 s s := fr_r
  unfold f_X12_isFull
  refine pq_b (ft_X12_quarrelHouse _ _ _) (fun _ s2 gs2 => ?_)
  have js2 := fr_t hJ gs2 rfl
  refine pq_c (fun _ => ?_)
  refine pq_b (ft_X12_isGone _ _) (fun _ s5 gs5 => ?_)
  have js5 := fr_t js2 gs5 rfl
  refine pq_if (fun _ => ?_) (fun _ => ?_)
  · refine pq_b (ft_X12_hasAt _ _ _) (fun _ s7 gs7 => ?_)
    have js7 := fr_t js5 gs7 rfl
    refine pq_b (ft_X12_needOf _ _) (fun _ s9 gs9 => ?_)
    have js9 := fr_t js7 gs9 rfl
    refine pq_if (fun _ => ?_) (fun _ => ?_)
    · exact pq_s js9
    · exact pq_s js9
  · refine pq_if (fun _ => ?_) (fun _ => ?_)
    · exact pq_s js5
    · exact pq_s js5
theorem ft_X12_hasPeace (a1 : Int32) (s : Sg) : PQ (f_X12_hasPeace a1 s) (fun _ s9 => Fr cdN 0 s s9) := by
  have hJ : Fr cdN 0 s s := fr_r
  unfold f_X12_hasPeace
  refine pq_b (ft_X12_isFull _ _ _) (fun _ s2 gs2 => ?_)
  have js2 := fr_t hJ gs2 rfl
  refine pq_if (fun _ => ?_) (fun _ => ?_)
  · exact pq_s js2
  · refine pq_b (ft_X12_isFull _ _ _) (fun _ s4 gs4 => ?_)
    have js4 := fr_t js2 gs4 rfl
    refine pq_if (fun _ => ?_) (fun _ => ?_)
    · exact pq_s js4
    · exact pq_s js4
theorem ft_X12_isSome (a1 : Int32) (a2 : Int32) (s : Sg) : PQ (f_X12_isSome a1 a2 s) (fun _ s9 => Fr cdN 0 s s9) := by
  have hJ : Fr cdN 0 s s := fr_r
  unfold f_X12_isSome
  refine pq_b (ft_X12_quarrelHouse _ _ _) (fun _ s2 gs2 => ?_)
  have js2 := fr_t hJ gs2 rfl
  refine pq_c (fun _ => ?_)
  refine pq_b (ft_X12_isGone _ _) (fun _ s5 gs5 => ?_)
  have js5 := fr_t js2 gs5 rfl
  refine pq_if (fun _ => ?_) (fun _ => ?_)
  · refine pq_b (ft_X12_hasAt _ _ _) (fun _ s7 gs7 => ?_)
    have js7 := fr_t js5 gs7 rfl
    refine pq_if (fun _ => ?_) (fun _ => ?_)
    · exact pq_s js7
    · exact pq_s js7
  · refine pq_if (fun _ => ?_) (fun _ => ?_)
    · exact pq_s js5
    · exact pq_s js5
theorem ft_X12_neverCan (a1 : Int32) (s : Sg) : PQ (f_X12_neverCan a1 s) (fun _ s9 => Fr cdN 0 s s9) := by
  have hJ : Fr cdN 0 s s := fr_r
  unfold f_X12_neverCan
  refine pq_if (fun _ => ?_) (fun _ => ?_)
  · refine pq_b (ft_X12_quarrelHouse _ _ _) (fun _ s2 gs2 => ?_)
    have js2 := fr_t hJ gs2 rfl
    refine pq_c (fun _ => ?_)
    refine pq_b (ft_X12_isGone _ _) (fun _ s5 gs5 => ?_)
    have js5 := fr_t js2 gs5 rfl
    refine pq_if (fun _ => ?_) (fun _ => ?_)
    · refine pq_b (ft_X12_quarrelHouse _ _ _) (fun _ s7 gs7 => ?_)
      have js7 := fr_t js5 gs7 rfl
      refine pq_c (fun _ => ?_)
      refine pq_b (ft_X12_isGone _ _) (fun _ s10 gs10 => ?_)
      have js10 := fr_t js7 gs10 rfl
      refine pq_if (fun _ => ?_) (fun _ => ?_)
      · exact pq_s js10
      · exact pq_s js10
    · exact pq_s js5
  · exact pq_s hJ
theorem ft_X12_setOf_b90 {s0 : Sg} (k_4 : Int32 → Int32 → Int32 → Sg → Option (Int32 × Sg)) (hk_4 : ∀ (v1 : Int32) (v2 : Int32) (v3 : Int32) (s : Sg), Fr cdN 0 s0 s → PQ (k_4 v1 v2 v3 s) (fun _ s9 => Fr cdN 0 s0 s9)) (v1 : Int32) (v2 : Int32) (v3 : Int32) (t0 : Int32) (s : Sg) (hJ : Fr cdN 0 s0 s) : PQ (f_X12_setOf_b90 k_4 v1 v2 v3 t0 s) (fun _ s9 => Fr cdN 0 s0 s9) := by
  unfold f_X12_setOf_b90
  refine pq_if (fun _ => ?_) (fun _ => ?_)
  · exact hk_4 _ _ _ _ hJ
  · refine pq_n (fun x3 _ => ?_)
    exact hk_4 _ _ _ _ hJ
theorem ft_X12_setOf_b53 {s0 : Sg} (k_4 : Int32 → Int32 → Int32 → Sg → Option (Int32 × Sg)) (hk_4 : ∀ (v1 : Int32) (v2 : Int32) (v3 : Int32) (s : Sg), Fr cdN 0 s0 s → PQ (k_4 v1 v2 v3 s) (fun _ s9 => Fr cdN 0 s0 s9)) (v1 : Int32) (v2 : Int32) (v3 : Int32) (s : Sg) (hJ : Fr cdN 0 s0 s) : PQ (f_X12_setOf_b53 k_4 v1 v2 v3 s) (fun _ s9 => Fr cdN 0 s0 s9) := by
  unfold f_X12_setOf_b53
  exact ft_X12_setOf_b90 _ hk_4 _ _ _ _ _ hJ
theorem ft_X12_setOf_b4 {s0 : Sg} (n : Nat) : ∀ (v1 : Int32) (v2 : Int32) (v3 : Int32) (s : Sg), Fr cdN 0 s0 s → PQ (f_X12_setOf_b4 n v1 v2 v3 s) (fun _ s9 => Fr cdN 0 s0 s9) := by
  induction n with
  | zero => intro v1 v2 v3 s _ r s9 e; cases e
  | succ n ih =>
    intro v1 v2 v3 s hJ
    unfold f_X12_setOf_b4
    refine pq_if (fun _ => ?_) (fun _ => ?_)
    · exact pq_s hJ
    · refine pq_if (fun _ => ?_) (fun _ => ?_)
      · refine pq_b (ft_X12_hasPeace _ _) (fun _ s2 gs2 => ?_)
        have js2 := fr_t hJ gs2 rfl
        exact ft_X12_setOf_b90 _ ih _ _ _ _ _ js2
      · refine pq_if (fun _ => ?_) (fun _ => ?_)
        · refine pq_b (ft_X12_isSome _ _ _) (fun _ s5 gs5 => ?_)
          have js5 := fr_t hJ gs5 rfl
          refine pq_if (fun _ => ?_) (fun _ => ?_)
          · exact ft_X12_setOf_b53 _ ih _ _ _ _ js5
          · refine pq_b (ft_X12_isSome _ _ _) (fun _ s7 gs7 => ?_)
            have js7 := fr_t js5 gs7 rfl
            refine pq_if (fun _ => ?_) (fun _ => ?_)
            · exact ft_X12_setOf_b53 _ ih _ _ _ _ js7
            · exact ft_X12_setOf_b90 _ ih _ _ _ _ _ js7
        · refine pq_if (fun _ => ?_) (fun _ => ?_)
          · refine pq_b (ft_X12_quarrelRow _ _) (fun _ s9 gs9 => ?_)
            have js9 := fr_t hJ gs9 rfl
            refine pq_c (fun _ => ?_)
            refine pq_if (fun _ => ?_) (fun _ => ?_)
            · exact ft_X12_setOf_b90 _ ih _ _ _ _ _ js9
            · exact ft_X12_setOf_b90 _ ih _ _ _ _ _ js9
          · refine pq_b (ft_X12_neverCan _ _) (fun _ s12 gs12 => ?_)
            have js12 := fr_t hJ gs12 rfl
            exact ft_X12_setOf_b90 _ ih _ _ _ _ _ js12
theorem ft_X12_setOf (a1 : Int32) (s : Sg) : PQ (f_X12_setOf a1 s) (fun _ s9 => Fr cdN 0 s s9) := by
  have hJ : Fr cdN 0 s s := fr_r
  unfold f_X12_setOf
  exact ft_X12_setOf_b4 BIG _ _ _ _ hJ
theorem ft_X12_bits_b4 {s0 : Sg} (n : Nat) : ∀ (v1 : Int32) (v2 : Int32) (s : Sg), Fr cdN 0 s0 s → PQ (f_X12_bits_b4 n v1 v2 s) (fun _ s9 => Fr cdN 0 s0 s9) := by
  induction n with
  | zero => intro v1 v2 s _ r s9 e; cases e
  | succ n ih =>
    intro v1 v2 s hJ
    unfold f_X12_bits_b4
    refine pq_if (fun _ => ?_) (fun _ => ?_)
    · exact pq_s hJ
    · exact ih _ _ _ hJ
theorem ft_X12_bits (a0 : Int32) (s : Sg) : PQ (f_X12_bits a0 s) (fun _ s9 => Fr cdN 0 s s9) := by
  have hJ : Fr cdN 0 s s := fr_r
  unfold f_X12_bits
  exact ft_X12_bits_b4 BIG _ _ _ hJ
theorem ft_X12_isSnow_b2 {s0 : Sg} (n : Nat) : ∀ (v1 : Int32) (s : Sg), Fr cdN 0 s0 s → PQ (f_X12_isSnow_b2 n v1 s) (fun _ s9 => Fr cdN 0 s0 s9) := by
  induction n with
  | zero => intro v1 s _ r s9 e; cases e
  | succ n ih =>
    intro v1 s hJ
    unfold f_X12_isSnow_b2
    refine pq_if (fun _ => ?_) (fun _ => ?_)
    · exact pq_s hJ
    · refine pq_b (ft_X12_houseRow _ _) (fun _ s2 gs2 => ?_)
      have js2 := fr_t hJ gs2 rfl
      refine pq_c (fun _ => ?_)
      refine pq_if (fun _ => ?_) (fun _ => ?_)
      · exact ih _ _ js2
      · exact pq_s js2
theorem ft_X12_isSnow  (s : Sg) : PQ (f_X12_isSnow  s) (fun _ s9 => Fr cdN 0 s s9) := by
  have hJ : Fr cdN 0 s s := fr_r
  unfold f_X12_isSnow
  exact ft_X12_isSnow_b2 BIG _ _ hJ
theorem ft_X12_isSetOf (a1 : Int32) (s : Sg) : PQ (f_X12_isSetOf a1 s) (fun _ s9 => Fr cdN 0 s s9) := by
  have hJ : Fr cdN 0 s s := fr_r
  unfold f_X12_isSetOf
  refine pq_if (fun _ => ?_) (fun _ => ?_)
  · exact pq_s hJ
  · refine pq_if (fun _ => ?_) (fun _ => ?_)
    · exact pq_s hJ
    · exact pq_s hJ
theorem ft_X12_tellsBy_b6 {s0 : Sg} (n : Nat) : ∀ (v1 : Int64) (v3 : Int64) (v5 : Int64) (v7 : Int64) (s : Sg), Fr cdN 29360128 s0 s → PQ (f_X12_tellsBy_b6 n v1 v3 v5 v7 s) (fun _ s9 => Fr cdN 29360128 s0 s9) := by
  induction n with
  | zero => intro v1 v3 v5 v7 s _ r s9 e; cases e
  | succ n ih =>
    intro v1 v3 v5 v7 s hJ
    unfold f_X12_tellsBy_b6
    refine pq_if (fun _ => ?_) (fun _ => ?_)
    · refine pq_c (fun _ => ?_)
      refine pq_n (fun s2 es2 => ?_)
      have js2 : Fr cdN 29360128 s0 s2 := by rw [es2]; exact (fr_l (fr_l hJ 23 rfl rfl) 24 rfl rfl)
      refine pq_b (ft_X12_is _ _) (fun _ s4 gs4 => ?_)
      have js4 := fr_t js2 gs4 rfl
      refine pq_c (fun _ => ?_)
      exact pq_s js4
    · refine pq_c (fun _ => ?_)
      exact ih _ _ _ _ _ hJ
theorem ft_X12_tellsBy (a1 : Int64) (a2 : Int64) (s : Sg) : PQ (f_X12_tellsBy a1 a2 s) (fun _ s9 => Fr cdN 29360128 s s9) := by
  have hJ : Fr cdN 29360128 s s := fr_r
  unfold f_X12_tellsBy
  exact ft_X12_tellsBy_b6 BIG _ _ _ _ _ hJ
theorem ft_X12_draw  (s : Sg) : PQ (f_X12_draw  s) (fun _ s9 => Fr cdN 562949953421312 s s9) := by
  have hJ : Fr cdN 562949953421312 s s := fr_r
  unfold f_X12_draw
  refine pq_n (fun s1 es1 => ?_)
  have js1 : Fr cdN 562949953421312 s s1 := by rw [es1]; exact (fr_i hJ 49 rfl rfl)
  exact pq_s js1
theorem ft_X12_behindEnds_b95 {s0 : Sg} (k_2 : Int32 → Sg → Option (Int32 × Sg)) (hk_2 : ∀ (v2 : Int32) (s : Sg), Fr cdN 1024 s0 s → PQ (k_2 v2 s) (fun _ s9 => Fr cdN 1024 s0 s9)) (v2 : Int32) (v3 : Int32) (v4 : Int32) (t0 : Int32) (t1 : Int32) (t2 : Int32) (s : Sg) (hJ : Fr cdN 1024 s0 s) : PQ (f_X12_behindEnds_b95 k_2 v2 v3 v4 t0 t1 t2 s) (fun _ s9 => Fr cdN 1024 s0 s9) := by
  unfold f_X12_behindEnds_b95
  refine pq_c (fun _ => ?_)
  refine pq_n (fun s8 es8 => ?_)
  have js8 : Fr cdN 1024 s0 s8 := by rw [es8]; exact (fr_i hJ 10 rfl rfl)
  refine pq_if (fun _ => ?_) (fun _ => ?_)
  · exact hk_2 _ _ js8
  · exact hk_2 _ _ js8
theorem ft_X12_behindEnds_b76 {s0 : Sg} (k_2 : Int32 → Sg → Option (Int32 × Sg)) (hk_2 : ∀ (v2 : Int32) (s : Sg), Fr cdN 1024 s0 s → PQ (k_2 v2 s) (fun _ s9 => Fr cdN 1024 s0 s9)) (v2 : Int32) (v3 : Int32) (t0 : Int32) (s : Sg) (hJ : Fr cdN 1024 s0 s) : PQ (f_X12_behindEnds_b76 k_2 v2 v3 t0 s) (fun _ s9 => Fr cdN 1024 s0 s9) := by
  unfold f_X12_behindEnds_b76
  refine pq_c (fun _ => ?_)
  refine pq_if (fun _ => ?_) (fun _ => ?_)
  · exact ft_X12_behindEnds_b95 _ hk_2 _ _ _ _ _ _ _ hJ
  · exact ft_X12_behindEnds_b95 _ hk_2 _ _ _ _ _ _ _ hJ
theorem ft_X12_behindEnds_b75 {s0 : Sg} (k_2 : Int32 → Sg → Option (Int32 × Sg)) (hk_2 : ∀ (v2 : Int32) (s : Sg), Fr cdN 1024 s0 s → PQ (k_2 v2 s) (fun _ s9 => Fr cdN 1024 s0 s9)) (v2 : Int32) (v3 : Int32) (s : Sg) (hJ : Fr cdN 1024 s0 s) : PQ (f_X12_behindEnds_b75 k_2 v2 v3 s) (fun _ s9 => Fr cdN 1024 s0 s9) := by
  unfold f_X12_behindEnds_b75
  exact ft_X12_behindEnds_b76 _ hk_2 _ _ _ _ hJ
theorem ft_X12_behindEnds_b2 {s0 : Sg} (n : Nat) : ∀ (v2 : Int32) (s : Sg), Fr cdN 1024 s0 s → PQ (f_X12_behindEnds_b2 n v2 s) (fun _ s9 => Fr cdN 1024 s0 s9) := by
  induction n with
  | zero => intro v2 s _ r s9 e; cases e
  | succ n ih =>
    intro v2 s hJ
    unfold f_X12_behindEnds_b2
    refine pq_if (fun _ => ?_) (fun _ => ?_)
    · exact pq_s hJ
    · refine pq_c (fun _ => ?_)
      refine pq_if (fun _ => ?_) (fun _ => ?_)
      · refine pq_c (fun _ => ?_)
        refine pq_n (fun x3 _ => ?_)
        refine pq_c (fun _ => ?_)
        refine pq_if (fun _ => ?_) (fun _ => ?_)
        · refine pq_c (fun _ => ?_)
          refine pq_if (fun _ => ?_) (fun _ => ?_)
          · exact ft_X12_behindEnds_b75 _ ih _ _ _ hJ
          · exact ft_X12_behindEnds_b76 _ ih _ _ _ _ hJ
        · exact ft_X12_behindEnds_b75 _ ih _ _ _ hJ
      · exact pq_s hJ
theorem ft_X12_behindEnds (a1 : Int32) (s : Sg) : PQ (f_X12_behindEnds a1 s) (fun _ s9 => Fr cdN 1024 s s9) := by
  have hJ : Fr cdN 1024 s s := fr_r
  unfold f_X12_behindEnds
  exact ft_X12_behindEnds_b2 BIG _ _ hJ
theorem ft_X12_holds (a1 : Int32) (s : Sg) : PQ (f_X12_holds a1 s) (fun _ s9 => Fr cdN 0 s s9) := by
  have hJ : Fr cdN 0 s s := fr_r
  unfold f_X12_holds
  refine pq_c (fun _ => ?_)
  refine pq_n (fun x2 _ => ?_)
  refine pq_c (fun _ => ?_)
  refine pq_n (fun x4 _ => ?_)
  refine pq_if (fun _ => ?_) (fun _ => ?_)
  · refine pq_b (ft_X12_quarrelRow _ _) (fun _ s6 gs6 => ?_)
    have js6 := fr_t hJ gs6 rfl
    refine pq_c (fun _ => ?_)
    refine pq_if (fun _ => ?_) (fun _ => ?_)
    · exact pq_s js6
    · exact pq_s js6
  · refine pq_if (fun _ => ?_) (fun _ => ?_)
    · refine pq_b (ft_X12_isSome _ _ _) (fun _ s9 gs9 => ?_)
      have js9 := fr_t hJ gs9 rfl
      refine pq_if (fun _ => ?_) (fun _ => ?_)
      · exact pq_s js9
      · refine pq_b (ft_X12_isSome _ _ _) (fun _ s11 gs11 => ?_)
        have js11 := fr_t js9 gs11 rfl
        refine pq_if (fun _ => ?_) (fun _ => ?_)
        · exact pq_s js11
        · exact pq_s js11
    · refine pq_b (ft_X12_grainsOn _ _) (fun _ s13 gs13 => ?_)
      have js13 := fr_t hJ gs13 rfl
      refine pq_c (fun _ => ?_)
      refine pq_if (fun _ => ?_) (fun _ => ?_)
      · refine pq_c (fun _ => ?_)
        refine pq_if (fun _ => ?_) (fun _ => ?_)
        · exact pq_s js13
        · exact pq_s js13
      · refine pq_if (fun _ => ?_) (fun _ => ?_)
        · refine pq_c (fun _ => ?_)
          refine pq_if (fun _ => ?_) (fun _ => ?_)
          · exact pq_s js13
          · exact pq_s js13
        · refine pq_c (fun _ => ?_)
          refine pq_if (fun _ => ?_) (fun _ => ?_)
          · exact pq_s js13
          · exact pq_s js13
/-! the reference's calls keep the plan in use -/
def PK (t0 t : Sg) : Prop := (∀ p, (110 ≤ p ∨ PlP p ∨ p = 11) → t.1 1 p = t0.1 1 p) ∧ t.1 0 24 = t0.1 0 24
theorem pk_r {t : Sg} : PK t t := ⟨fun _ _ => rfl, rfl⟩
theorem pk_kl {w : Bool} {t0 t t' : Sg} (h : PK t0 t) (k : KL w t t') : PK t0 t' := ⟨fun p hp => (k.2.1 p hp).trans (h.1 p hp), (k.2.2.2.1 24 (by decide) (by decide)).trans h.2⟩
theorem pk_o {t0 t : Sg} {c k : Nat} {v : Int32} (h : PK t0 t) (e : ¬ c = 1) (e0 : c = 0 → ¬ k = 24) : PK t0 (pI t c k v) := ⟨fun p hp => by rw [pI_o _ _ _ _ _ (fun z => e z.symm)]; exact h.1 p hp, by
  rw [pI_1, if_neg (fun z => e0 z.1.symm z.2.symm)]
  exact h.2⟩
theorem pk_2 {t0 t : Sg} {v : Int32} (h : PK t0 t) : PK t0 (pI t 0 2 v) := pk_o h (by decide) (fun _ => by decide)
theorem pk_f {L : Nat} {t0 t t' : Sg} (h : PK t0 t) (f : Fr cdN L t t') (e1 : L.testBit 1 = false) (e2 : L.testBit 44 = false) : PK t0 t' := ⟨fun p hp => (fr_e f 1 p 1 rfl e1).trans (h.1 p hp), (fr_e f 0 24 44 rfl e2).trans h.2⟩
theorem pk_e {t0 t t' : Sg} (h : PK t0 t) (e : t' = t) : PK t0 t' := by rw [e]; exact h
theorem bd_x {t0 t : Sg} (h : BdK t0) (k : ∀ p, PlP p → t.1 1 p = t0.1 1 p) (k24 : t.1 0 24 = t0.1 0 24) : BdK t := by
  have e : ∀ p, p < 4 → t.1 1 p = t0.1 1 p := fun p hp => k p (plp_0 (Or.inl hp))
  obtain ⟨h0, h1, h2, h3, h4, h5⟩ := h
  unfold BdK
  rw [e 0 (by decide), e 1 (by decide), e 2 (by decide), k24]
  refine ⟨h0, h1, h2, fun c hc => ?_, fun q hq => ?_, h5⟩
  · rw [k _ (plp_c (c := c) (by omega)).1, k _ (plp_c (c := c) (by omega)).2.1]
    exact h3 c hc
  · have w := h4 q hq
    refine ⟨w.1, ?_⟩
    unfold EndsM
    rw [k _ (plp_q w.1).1, k _ (plp_q w.1).2.1]
    exact w.2
theorem bd_pk {t0 t : Sg} (h : BdK t0) (k : PK t0 t) : BdK t := bd_x h (fun p hp => k.1 p (plq hp)) k.2
theorem bd_pl {s t : Sg} (P : PlnR 24 s (t.1 1)) (e : t.1 0 24 = -1) : BdK t := by
  have b := P.2.1
  refine ⟨b.1, b.2.1, b.2.2.1, fun c hc => ?_, fun q hq => ⟨(pln_q P hq).1, (pln_q P hq).2.2.1⟩, e⟩
  have pc := P.2.2.2.2.2.1 c hc
  have p1 : s.1 35 c = t.1 1 (80 + 3 * c) := pc.1.1
  have p2 : s.1 36 c = t.1 1 (81 + 3 * c) := pc.1.2.1
  have q1 : 0 ≤ (s.1 35 c).toInt ∧ (s.1 35 c).toInt < (t.1 1 0).toInt := pc.2.1
  have q2 : 0 ≤ (s.1 36 c).toInt ∧ (s.1 36 c).toInt < (t.1 1 0).toInt := pc.2.2.1
  have b0 : (t.1 1 0).toInt ≤ 8 := b.1.2
  rw [← p1, ← p2]
  omega
theorem pk_rf {t0 t : Sg} (h : PK t0 t) (w : Int32) : PQ (bd (f_X12_refuse w t) (fun r t => some (r, t))) (fun _ t' => PK t0 t') := by
  have q : PQ (some ((-1 : Int32), pI t 0 2 w)) (fun _ t' => PK t0 t') := pq_s (pk_2 h)
  exact q
theorem pk_gv {t0 t : Sg} (h : PK t0 t) (v : Int32) : PQ (bd (f_X12_gives v t) (fun r t => some (r, t))) (fun _ t' => PK t0 t') := by
  have q : PQ (some (v, pI t 0 2 0)) (fun _ t' => PK t0 t') := pq_s (pk_2 h)
  exact q
theorem pk_is {t0 t : Sg} (h : PK t0 t) (w : Int32) : PQ (bd (f_X12_is w t) (fun r t => ck (r = 0 ∨ r = 1) (some (r, t)))) (fun _ t' => PK t0 t') := by
  unfold f_X12_is
  exact pq_b (P := fun _ t' => PK t0 t') (pq_if (fun _ => pq_s (pk_2 h)) (fun _ => pq_s (pk_2 h))) (fun r t' g => pq_c (fun _ => pq_s g))
theorem hs_t {M : Nat → Int32} {a : Int32} (b : (M 0).toInt ≤ 8) (h : HsM M a) : ∃ n : Nat, a.toInt = (n : Int) ∧ n < 8 := ⟨a.toInt.toNat, (hs_n b h).1, (hs_n b h).2⟩
theorem wn_hs {M : Nat → Int32} {a : Int32} {P : Prop} {r : Int32} (h : Wn M a P r) (n : ¬ r = 1) : HsM M a := by
  rcases h with w | w | w
  · exact absurd w.1 n
  · exact w.2.1.1
  · exact w.2.1.1
theorem pk_strew (a g : Int32) {t : Sg} (B : BdK t) : PQ (f_X12_strew a g t) (fun _ t' => PK t t') := by
  have b0 := B.1.2
  have fin : ∀ r, (¬ r = 1 → HsM (t.1 1) a) → PQ (f_X12_strew_b21 a g r t) (fun _ t' => PK t t') := fun r hr => by
    unfold f_X12_strew_b21
    refine pq_if (fun _ => pk_rf pk_r 1) (fun n => ?_)
    obtain ⟨h, ha, hh⟩ := hs_t b0 (hr n)
    refine pq_b (room_m ha hh g t) (fun r5 t6 k => ?_)
    obtain ⟨et, -⟩ := k
    subst et
    refine pq_if (fun _ => pk_rf pk_r 4) (fun _ => pq_if (fun _ => pk_rf pk_r 7) (fun _ => pq_b (kl_strews (w := true) kl_r ha hh g) (fun _ t12 k => pq_b (hr_p a t12) (fun r13 t14 e => pq_c (fun _ => ?_)))))
    obtain ⟨et, -⟩ := e
    subst et
    exact pk_gv (pk_kl pk_r k) _
  unfold f_X12_strew
  refine pq_b (from_m g 1 999 t) (fun r1 t2 k => ?_)
  obtain ⟨et, -⟩ := k
  subst et
  refine pq_if (fun _ => fin 1 (fun z => absurd rfl z)) (fun _ => pq_b (wrong_m a b0) (fun r t3 k => ?_))
  obtain ⟨et, k⟩ := k
  subst et
  exact fin r (wn_hs k)
theorem pk_buy (a g h : Int32) {t : Sg} (B : BdK t) (b3 : (t.1 1 3).toInt ≤ 4) : PQ (f_X12_buy a g h t) (fun _ t' => PK t t') := by
  have b0 := B.1.2
  have e0 : (0 : Int32).toInt = 0 := rfl
  unfold f_X12_buy
  refine pq_if (fun _ => pk_rf pk_r 1) (fun c1 => pq_if (fun _ => pk_rf pk_r 1) (fun c2 => pq_b (from_m g 1 999 t) (fun r5 t6 k => ?_)))
  have c1 := i_nlt c1
  have c2 := i_nle c2
  obtain ⟨et, -⟩ := k
  subst et
  refine pq_if (fun _ => pk_rf pk_r 1) (fun _ => pq_b (isH_m h t6) (fun r9 t10 k => ?_))
  obtain ⟨et, k⟩ := k
  subst et
  refine pq_if (fun _ => pk_rf pk_r 1) (fun c => ?_)
  obtain ⟨n, hn, h8⟩ := hs_t b0 (r1_y k c)
  refine pq_b (room_m hn h8 g t10) (fun r13 t14 k => ?_)
  obtain ⟨et, -⟩ := k
  subst et
  refine pq_if (fun _ => pk_rf pk_r 4) (fun _ => pq_c (fun _ => pq_if (fun _ => pq_b (gone_m hn (by omega) t14) (fun r18 t19 k => ?_)) (fun _ => pk_rf pk_r 6)))
  obtain ⟨et, -⟩ := k
  subst et
  exact pq_if (fun _ => pq_b (kl_buys (w := true) kl_r (g := a.toInt.toNat) (by omega) (by omega) hn h8 g) (fun r20 t21 k => pk_gv (pk_kl pk_r k) _)) (fun _ => pk_rf pk_r 7)
theorem pk_sweep (a : Int32) {t : Sg} (B : BdK t) : PQ (f_X12_sweep a t) (fun _ t' => PK t t') := by
  have b0 := B.1.2
  unfold f_X12_sweep
  refine pq_b (wrong_m a b0) (fun r t3 k => ?_)
  obtain ⟨et, k⟩ := k
  subst et
  refine pq_if (fun c => ?_) (fun _ => pk_rf pk_r _)
  obtain ⟨n, hn, h8⟩ := hs_t b0 (wn_hs k (fun z => by rw [z] at c; exact absurd c (by decide)))
  exact pq_b (kl_sweeps (w := true) kl_r hn h8) (fun r3 t4 k => pk_gv (pk_kl pk_r k) _)
theorem pk_shovel (a b g : Int32) {t : Sg} (B : BdK t) : PQ (f_X12_shovel a b g t) (fun _ t' => PK t t') := by
  have b0 := B.1.2
  unfold f_X12_shovel
  refine pq_b (isH_m a t) (fun r1 t2 k => ?_)
  obtain ⟨et, k⟩ := k
  subst et
  refine pq_if (fun _ => pk_rf pk_r 1) (fun c => pq_b (isH_m b t2) (fun r5 t6 l => ?_))
  obtain ⟨et, l⟩ := l
  subst et
  refine pq_if (fun _ => pk_rf pk_r 1) (fun d => ?_)
  obtain ⟨n, hn, h8⟩ := hs_t b0 (r1_y k c)
  obtain ⟨j, hj, j8⟩ := hs_t b0 (r1_y l d)
  refine pq_if (fun _ => pk_rf pk_r 1) (fun _ => pq_b (from_m g 1 999 t6) (fun r11 t12 k => ?_))
  obtain ⟨et, -⟩ := k
  subst et
  refine pq_if (fun _ => pk_rf pk_r 1) (fun _ => pq_b (grains_m hn h8 t12) (fun r15 t16 k => ?_))
  obtain ⟨et, -⟩ := k
  subst et
  refine pq_if (fun _ => pq_b (gone_m hn (by omega) t16) (fun r17 t18 k => ?_)) (fun _ => pk_rf pk_r 6)
  obtain ⟨et, -⟩ := k
  subst et
  refine pq_if (fun _ => pq_b (gone_m hj (by omega) t18) (fun r19 t20 k => ?_)) (fun _ => pk_rf pk_r 7)
  obtain ⟨et, -⟩ := k
  subst et
  exact pq_if (fun _ => pq_b (kl_brings (w := true) kl_r hn h8 hj j8 g) (fun r21 t22 k => pk_gv (pk_kl pk_r k) _)) (fun _ => pk_rf pk_r 7)
theorem pk_rain {t : Sg} (B : BdK t) : PQ (f_X12_rain t) (fun _ t' => PK t t') := by
  unfold f_X12_rain f_X12_rains
  exact pq_b (kl_rains (w := true) B BIG 0 0 0 t rfl (by decide) kl_r) (fun r t2 k => pk_gv (pk_kl pk_r k) _)
theorem pk_snow (n : Int32) {t : Sg} (B : BdK t) : PQ (f_X12_snow n t) (fun _ t' => PK t t') := by
  unfold f_X12_snow
  refine pq_b (from_m n 0 99 t) (fun r1 t2 k => ?_)
  obtain ⟨et, -⟩ := k
  subst et
  unfold f_X12_snows
  exact pq_if (fun _ => pk_is pk_r 1) (fun _ => pq_b (kl_snows (w := true) B n BIG 0 0 t2 rfl (by decide) kl_r) (fun r t3 k => pk_is (pk_kl pk_r k) 0))
theorem pk_night {t : Sg} (B : BdK t) : PQ (f_X12_night t) (fun _ t' => PK t t') := by
  unfold f_X12_night
  exact pq_if (fun _ => pk_rf pk_r 4) (fun _ => pq_b (kl_night B) (fun _ t2 k => pk_gv (pk_kl pk_r k) _))
theorem pk_b32 {t0 : Sg} (B : BdK t0) (m : Nat) : ∀ (i : Nat) (v1 v2 v3 v4 v5 : Int32) (t : Sg), v5.toInt = (i : Int) → i ≤ 8 → PK t0 t → PQ (f_X12_best_b32 m v1 v2 v3 v4 v5 t) (fun _ t' => PK t0 t') := by
  induction m with
  | zero => intro i v1 v2 v3 v4 v5 t _ _ _ r t' z; cases z
  | succ m ih =>
    intro i v1 v2 v3 v4 v5 t hv hi K
    have e1 : (1 : Int32).toInt = 1 := rfl
    have b0 := (bd_pk B K).1.2
    unfold f_X12_best_b32 f_X12_orNone
    refine pq_if (fun _ => pq_b (P := fun _ t' => PK t0 t') (pq_if (fun _ => pk_rf K 6) (fun _ => pk_gv K _)) (fun r t8 g => pq_s g)) (fun c => ?_)
    have c := i_nle c
    have hh : i < 8 := by omega
    have a5 : (v5 + 1).toInt = ((i + 1 : Nat) : Int) := by rw [i_addx _ _ (by omega)]; omega
    refine pq_b (gone_m hv (by omega) t) (fun r9 t10 k => ?_)
    obtain ⟨et, -⟩ := k
    subst et
    refine pq_if (fun _ => pq_b (hr_p v5 t10) (fun r11 t12 k => pq_c (fun _ => pq_n (fun t14 e14 => ?_)))) (fun _ => ih (i + 1) _ _ _ _ (v5 + 1) t10 a5 (by omega) K)
    obtain ⟨et, er⟩ := k
    subst et
    rw [er, (hr_x hv hh).1] at e14
    have K14 : PK t0 t14 := by
      rw [e14]
      exact pk_kl K (kl_i (w := true) kl_r (gpl_h hh (Or.inl rfl)))
    refine pq_b (ft_X12_setOf 0 t14) (fun r15 t16 f16 => pq_b (ft_X12_bits _ t16) (fun r17 t18 f18 => pq_b (hr_p v5 t18) (fun r19 t20 k => pq_c (fun _ => pq_n (fun t22 e22 => ?_)))))
    obtain ⟨et, er⟩ := k
    have K20 : PK t0 t20 := pk_e (pk_f (pk_f K14 f16 rfl rfl) f18 rfl rfl) et
    rw [er, (hr_x hv hh).1] at e22
    have K22 : PK t0 t22 := by
      rw [e22]
      exact pk_kl K20 (kl_i (w := true) kl_r (gpl_h hh (Or.inl rfl)))
    exact pq_if (fun _ => ih (i + 1) _ _ _ _ (v5 + 1) t22 a5 (by omega) K22) (fun _ => ih (i + 1) _ _ _ _ (v5 + 1) t22 a5 (by omega) K22)
theorem pk_best (g : Int32) {t : Sg} (B : BdK t) : PQ (f_X12_best g t) (fun _ t' => PK t t') := by
  unfold f_X12_best
  refine pq_b (from_m g 1 999 t) (fun r1 t2 k => ?_)
  obtain ⟨et, -⟩ := k
  subst et
  exact pq_if (fun _ => pk_rf pk_r 1) (fun _ => pq_b (ft_X12_setOf 0 t2) (fun r5 t6 f => pk_b32 B BIG 0 _ _ _ _ 0 t6 rfl (by decide) (pk_f pk_r f rfl rfl)))
/-! what is kept aside and taken back -/
def SvW (t0 t : Sg) : Prop := (∀ k, k < 110 → t.1 1 (2400 + k) = t0.1 1 k) ∧ t.1 0 24 = t0.1 0 24
theorem svk_b2 {t0 : Sg} (m : Nat) : ∀ (i : Nat) (v : Int32) (t : Sg), v.toInt = (i : Int) → i ≤ 110 → (∀ k, k < i → t.1 1 (2400 + k) = t0.1 1 k) → (∀ p, p < 2400 → t.1 1 p = t0.1 1 p) → (∀ c, ¬ c = 1 → t.1 c = t0.1 c) → t.2 = t0.2 → PQ (f_X12_keepsAll_b2 m v t) (fun _ t' => SvW t0 t' ∧ (∀ p, p < 2400 → t'.1 1 p = t0.1 1 p) ∧ (∀ c, ¬ c = 1 → t'.1 c = t0.1 c) ∧ t'.2 = t0.2) := by
  induction m with
  | zero => intro i v t _ _ _ _ _ _ r t' z; cases z
  | succ m ih =>
    intro i v t hv hi h1 h2 h3 h4
    have e1 : (1 : Int32).toInt = 1 := rfl
    have e110 : (110 : Int32).toInt = 110 := rfl
    have e2400 : (2400 : Int32).toInt = 2400 := rfl
    unfold f_X12_keepsAll_b2
    refine pq_if (fun c => pq_s ⟨⟨fun k hk => h1 k ?_, by rw [h3 0 (by decide)]⟩, h2, h3, h4⟩) (fun c => pq_c (fun _ => pq_c (fun _ => pq_n (fun t3 e => ?_))))
    · have c := i_le c
      omega
    · have c := i_nle c
      rw [cl_h hv, show (2400 + v).toNatClampNeg = 2400 + i from cl_h (by rw [i_addx _ _ (by omega)]; omega)] at e
      refine ih (i + 1) (v + 1) t3 (by rw [i_addx _ _ (by omega)]; omega) (by omega) (fun k hk => ?_) (fun p hp => ?_) (fun c hc => ?_) ?_
      · rw [e, pI_1]
        by_cases z : k = i
        · rw [if_pos ⟨rfl, by omega⟩, h2 i (by omega), z]
        · rw [if_neg (fun y => z (by have := y.2; omega))]
          exact h1 k (by omega)
      · rw [e, pI_1, if_neg (fun y => by have := y.2; omega)]
        exact h2 p hp
      · rw [e, pI_o _ _ _ _ _ hc]
        exact h3 c hc
      · rw [e]
        exact h4
theorem sv_k (t : Sg) : PQ (f_X12_keepsAll t) (fun _ t' => SvW t t' ∧ (∀ p, p < 2400 → t'.1 1 p = t.1 1 p) ∧ (∀ c, ¬ c = 1 → t'.1 c = t.1 c) ∧ t'.2 = t.2) := by
  unfold f_X12_keepsAll
  exact svk_b2 BIG 0 0 t rfl (by decide) (fun k hk => absurd hk (Nat.not_lt_zero k)) (fun _ _ => rfl) (fun _ _ => rfl) rfl
theorem svt_b2 {t0 : Sg} (m : Nat) : ∀ (i : Nat) (v : Int32) (t : Sg), v.toInt = (i : Int) → i ≤ 110 → (∀ k, k < i → t.1 1 k = t0.1 1 (2400 + k)) → (∀ p, 110 ≤ p → t.1 1 p = t0.1 1 p) → (∀ c, ¬ c = 1 → t.1 c = t0.1 c) → t.2 = t0.2 → PQ (f_X12_takesBack_b2 m v t) (fun _ t' => (∀ k, k < 110 → t'.1 1 k = t0.1 1 (2400 + k)) ∧ (∀ p, 110 ≤ p → t'.1 1 p = t0.1 1 p) ∧ (∀ c, ¬ c = 1 → t'.1 c = t0.1 c) ∧ t'.2 = t0.2) := by
  induction m with
  | zero => intro i v t _ _ _ _ _ _ r t' z; cases z
  | succ m ih =>
    intro i v t hv hi h1 h2 h3 h4
    have e1 : (1 : Int32).toInt = 1 := rfl
    have e110 : (110 : Int32).toInt = 110 := rfl
    have e2400 : (2400 : Int32).toInt = 2400 := rfl
    unfold f_X12_takesBack_b2
    refine pq_if (fun c => pq_s ⟨fun k hk => h1 k ?_, h2, h3, h4⟩) (fun c => pq_c (fun _ => pq_c (fun _ => pq_n (fun t3 e => ?_))))
    · have c := i_le c
      omega
    · have c := i_nle c
      rw [cl_h hv, show (2400 + v).toNatClampNeg = 2400 + i from cl_h (by rw [i_addx _ _ (by omega)]; omega)] at e
      refine ih (i + 1) (v + 1) t3 (by rw [i_addx _ _ (by omega)]; omega) (by omega) (fun k hk => ?_) (fun p hp => ?_) (fun c hc => ?_) ?_
      · rw [e, pI_1]
        by_cases z : k = i
        · rw [if_pos ⟨rfl, z⟩, h2 (2400 + i) (by omega), z]
        · rw [if_neg (fun y => z y.2)]
          exact h1 k (by omega)
      · rw [e, pI_1, if_neg (fun y => by have := y.2; omega)]
        exact h2 p hp
      · rw [e, pI_o _ _ _ _ _ hc]
        exact h3 c hc
      · rw [e]
        exact h4
theorem sv_t (t : Sg) : PQ (f_X12_takesBack t) (fun _ t' => (∀ k, k < 110 → t'.1 1 k = t.1 1 (2400 + k)) ∧ (∀ p, 110 ≤ p → t'.1 1 p = t.1 1 p) ∧ (∀ c, ¬ c = 1 → t'.1 c = t.1 c) ∧ t'.2 = t.2) := by
  unfold f_X12_takesBack
  exact svt_b2 BIG 0 0 t rfl (by decide) (fun k hk => absurd hk (Nat.not_lt_zero k)) (fun _ _ => rfl) (fun _ _ => rfl) rfl
/-- kept aside, and the plan still there -/
def SvP (t0 t : Sg) : Prop := SvW t0 t ∧ BdK t
theorem svp_night {t0 t : Sg} (h : SvP t0 t) : PQ (f_X12_nightGoes t) (fun _ t' => SvP t0 t') := pq_w (kl_night h.2) (fun _ t' k => ⟨⟨fun p hp => (k.2.1 _ (Or.inl (by omega))).trans (h.1.1 p hp), (k.2.2.2.1 24 (by decide) (by decide)).trans h.1.2⟩, bdk_k h.2 k⟩)
theorem svp_k {t : Sg} (B : BdK t) : PQ (f_X12_keepsAll t) (fun _ t' => SvP t t') := pq_w (sv_k t) (fun _ t' g => ⟨g.1, bd_x B (fun p hp => g.2.1 p (by have := (plp_lt hp).1; omega)) g.1.2⟩)
theorem svp_f {L : Nat} {t0 t t' : Sg} (h : SvP t0 t) (f : Fr cdN L t t') (e1 : L.testBit 1 = false) (e2 : L.testBit 44 = false) : SvP t0 t' :=
  ⟨⟨fun k hk => (fr_e f 1 _ 1 rfl e1).trans (h.1.1 k hk), (fr_e f 0 24 44 rfl e2).trans h.1.2⟩, bd_x h.2 (fun p _ => fr_e f 1 p 1 rfl e1) (fr_e f 0 24 44 rfl e2)⟩
def RsM (t0 t : Sg) : Prop := (∀ p, p < 110 → t.1 1 p = t0.1 1 p) ∧ t.1 0 24 = t0.1 0 24
theorem rs_2 {t0 t : Sg} {v : Int32} (h : RsM t0 t) : RsM t0 (pI t 0 2 v) := ⟨fun p hp => by rw [q_nc rfl]; exact h.1 p hp, by rw [q_ne rfl]; exact h.2⟩
theorem rs_t {t0 t : Sg} (h : SvW t0 t) : PQ (f_X12_takesBack t) (fun _ t' => RsM t0 t') := pq_w (sv_t t) (fun _ t' g => ⟨fun p hp => (g.1 p hp).trans (h.1 p hp), by rw [g.2.2.1 0 (by decide)]; exact h.2⟩)
theorem rs_rf {t0 t : Sg} (h : RsM t0 t) (w : Int32) : PQ (bd (f_X12_refuse w t) (fun r t => some (r, t))) (fun _ t' => RsM t0 t') := by
  have q : PQ (some ((-1 : Int32), pI t 0 2 w)) (fun _ t' => RsM t0 t') := pq_s (rs_2 h)
  exact q
theorem rs_gv {t0 t : Sg} (h : RsM t0 t) (v : Int32) : PQ (bd (f_X12_gives v t) (fun r t => some (r, t))) (fun _ t' => RsM t0 t') := by
  have q : PQ (some (v, pI t 0 2 0)) (fun _ t' => RsM t0 t') := pq_s (rs_2 h)
  exact q
theorem rs_is {t0 t : Sg} (h : RsM t0 t) (w : Int32) : PQ (bd (f_X12_is w t) (fun r t => ck (r = 0 ∨ r = 1) (some (r, t)))) (fun _ t' => RsM t0 t') := by
  unfold f_X12_is
  exact pq_b (P := fun _ t' => RsM t0 t') (pq_if (fun _ => pq_s (rs_2 h)) (fun _ => pq_s (rs_2 h))) (fun r t' g => pq_c (fun _ => pq_s g))
theorem rs_r {t : Sg} : RsM t t := ⟨fun _ _ => rfl, rfl⟩
theorem rs_e {t0 t t' : Sg} (h : SvP t0 t) (e : t' = t) : SvP t0 t' := by rw [e]; exact h
theorem rs_51 {t0 : Sg} (m : Nat) : ∀ (v1 v2 v3 v5 : Int32) (t : Sg), SvP t0 t → PQ (f_X12_forecast_b51 m v1 v2 v3 v5 t) (fun _ t' => RsM t0 t') := by
  induction m with
  | zero => intro v1 v2 v3 v5 t _ r t' z; cases z
  | succ m ih =>
    intro v1 v2 v3 v5 t h
    unfold f_X12_forecast_b51
    refine pq_if (fun _ => pq_b (hr_p v1 t) (fun r5 t6 k => pq_c (fun _ => pq_n (fun x8 _ => pq_b (rs_t (rs_e h k.1).1) (fun _ t10 g => rs_gv g x8))))) (fun _ => pq_b (svp_night h) (fun _ t14 g => ih v1 v2 v3 (v5 + 1) t14 g))
theorem rs_forecast (a b c : Int32) {t : Sg} (B : BdK t) : PQ (f_X12_forecast a b c t) (fun _ t' => RsM t t') := by
  have fin : ∀ r, PQ (f_X12_forecast_b30 a b c r t) (fun _ t' => RsM t t') := fun r => by
    unfold f_X12_forecast_b30
    exact pq_if (fun _ => pq_b (svp_k B) (fun _ t4 g => rs_51 BIG a b c 0 t4 g)) (fun _ => rs_rf rs_r r)
  unfold f_X12_forecast
  refine pq_b (from_m b 0 60 t) (fun r1 t2 k => ?_)
  obtain ⟨et, -⟩ := k
  subst et
  refine pq_if (fun _ => fin 1) (fun _ => pq_if (fun _ => fin 1) (fun _ => pq_if (fun _ => pq_b (wrong_m a B.1.2) (fun r t3 k => ?_)) (fun _ => fin 1)))
  obtain ⟨et, -⟩ := k
  subst et
  exact fin r
theorem rs_20 {t0 : Sg} (v1 : Int32) (m : Nat) : ∀ (v2 : Int32) (t : Sg), SvP t0 t → PQ (f_X12_soonest_b20 m v1 v2 t) (fun _ t' => RsM t0 t') := by
  induction m with
  | zero => intro v2 t _ r t' z; cases z
  | succ m ih =>
    intro v2 t h
    have fin : ∀ t1, SvP t0 t1 → PQ (f_X12_soonest_b50 v2 t1) (fun _ t' => RsM t0 t') := fun t1 h1 => by
      unfold f_X12_soonest_b50
      exact pq_b (rs_t h1.1) (fun _ t8 g => pq_if (fun _ => rs_rf g 6) (fun _ => rs_gv g v2))
    unfold f_X12_soonest_b20
    exact pq_if (fun _ => fin t h) (fun _ => pq_b (qrow_p v1 t) (fun r13 t14 k => pq_c (fun _ => pq_if (fun _ => pq_b (svp_night (rs_e h k.1)) (fun _ t17 g => ih (v2 + 1) t17 g)) (fun _ => fin t14 (rs_e h k.1)))))
theorem rs_soonest (a : Int32) {t : Sg} (B : BdK t) : PQ (f_X12_soonest a t) (fun _ t' => RsM t t') := by
  unfold f_X12_soonest
  refine pq_b (ft_X12_isQuarrel a t) (fun r1 t2 f => ?_)
  have p2 : RsM t t2 := ⟨fun p _ => fr_e f 1 p 1 rfl rfl, fr_e f 0 24 44 rfl rfl⟩
  have B2 : BdK t2 := bd_x B (fun p _ => fr_e f 1 p 1 rfl rfl) p2.2
  refine pq_if (fun _ => rs_rf p2 1) (fun _ => pq_w (pq_b (svp_k B2) (fun _ t6 g => rs_20 a BIG 0 t6 g)) (fun _ t' g => ⟨fun p hp => (g.1 p hp).trans (p2.1 p hp), g.2.trans p2.2⟩))
theorem rs_22 {t0 : Sg} (v1 : Int32) (m : Nat) : ∀ (v2 : Int32) (t : Sg), SvP t0 t → PQ (f_X12_thaw_b22 m v1 v2 t) (fun _ t' => RsM t0 t') := by
  induction m with
  | zero => intro v2 t _ r t' z; cases z
  | succ m ih =>
    intro v2 t h
    have fin : ∀ t1, SvP t0 t1 → PQ (f_X12_thaw_b52 v2 t1) (fun _ t' => RsM t0 t') := fun t1 h1 => by
      unfold f_X12_thaw_b52
      exact pq_b (rs_t h1.1) (fun _ t8 g => pq_if (fun _ => rs_rf g 6) (fun _ => rs_gv g v2))
    unfold f_X12_thaw_b22
    exact pq_if (fun _ => fin t h) (fun _ => pq_b (hr_p v1 t) (fun r13 t14 k => pq_c (fun _ => pq_if (fun _ => fin t14 (rs_e h k.1)) (fun _ => pq_b (svp_night (rs_e h k.1)) (fun _ t17 g => ih (v2 + 1) t17 g)))))
theorem rs_thaw (a : Int32) {t : Sg} (B : BdK t) : PQ (f_X12_thaw a t) (fun _ t' => RsM t t') := by
  unfold f_X12_thaw
  refine pq_b (wrong_m a B.1.2) (fun r t3 k => ?_)
  obtain ⟨et, -⟩ := k
  subst et
  exact pq_if (fun _ => pq_b (svp_k B) (fun _ t4 g => rs_22 a BIG 0 t4 g)) (fun _ => rs_rf rs_r r)
theorem rs_6 {t0 : Sg} (m : Nat) : ∀ (v2 : Int32) (t : Sg), SvP t0 t → PQ (f_X12_thawAll_b6 m v2 t) (fun _ t' => RsM t0 t') := by
  induction m with
  | zero => intro v2 t _ r t' z; cases z
  | succ m ih =>
    intro v2 t h
    have fin : ∀ t1, SvP t0 t1 → PQ (f_X12_thawAll_b29 v2 t1) (fun _ t' => RsM t0 t') := fun t1 h1 => by
      unfold f_X12_thawAll_b29
      exact pq_b (rs_t h1.1) (fun _ t8 g => pq_if (fun _ => rs_rf g 6) (fun _ => rs_gv g v2))
    unfold f_X12_thawAll_b6
    exact pq_if (fun _ => fin t h) (fun _ => pq_b (ft_X12_isSnow t) (fun r13 t14 f => pq_if (fun _ => fin t14 (svp_f h f rfl rfl)) (fun _ => pq_b (svp_night (svp_f h f rfl rfl)) (fun _ t17 g => ih (v2 + 1) t17 g))))
theorem rs_thawAll {t : Sg} (B : BdK t) : PQ (f_X12_thawAll t) (fun _ t' => RsM t t') := by
  unfold f_X12_thawAll
  exact pq_b (svp_k B) (fun _ t4 g => rs_6 BIG 0 t4 g)
theorem e24_freed (a : Int32) (t : Sg) : PQ (f_X12_freed a t) (fun _ t' => t'.1 0 24 = -1 ∨ t'.1 0 24 = t.1 0 24) := by
  unfold f_X12_freed
  refine pq_b (ft_X12_isQuarrel a t) (fun r1 t2 f => pq_if (fun _ => ?_) (fun _ => pq_b (ft_X12_setOf 0 t2) (fun r5 t6 f6 => pq_b (ft_X12_setOf 0 _) (fun r7 t8 f8 => ?_))))
  · have q : PQ (some ((-1 : Int32), pI t2 0 2 1)) (fun _ t' => t'.1 0 24 = -1 ∨ t'.1 0 24 = t.1 0 24) := pq_s (Or.inr ((q_ne rfl).trans (fr_e f 0 24 44 rfl rfl)))
    exact q
  · have q : ∀ v : Int32, PQ (some (v, pI (pI t8 0 24 (-1)) 0 2 0)) (fun _ t' => t'.1 0 24 = -1 ∨ t'.1 0 24 = t.1 0 24) := fun v => pq_s (Or.inl ((q_ne rfl).trans q_eq))
    exact q _
/-! days lived: the plan stays -/
/-- rows whose houses and grocers are such -/
def RwP (t : Sg) : Prop := ∀ p : Nat, 110 ≤ p → (p - 110) % 6 = 0 → (p : Int) < 110 + 6 * (t.1 1 11).toInt → ((t.1 1 p).toInt = 19 ∨ (t.1 1 p).toInt = 20 ∨ (t.1 1 p).toInt = 21 → 0 ≤ (t.1 1 (p + 1)).toInt ∧ (t.1 1 (p + 1)).toInt ≤ 7) ∧ ((t.1 1 p).toInt = 20 → 0 ≤ (t.1 1 (p + 3)).toInt ∧ (t.1 1 (p + 3)).toInt ≤ 3)
theorem rwp_of {t : Sg} (hR : Rg rM t) (h : RowM t) : RwP t := fun p h1 h2 h3 => by
  have w := h p h1 h2 h3
  have r11 : -1 ≤ (t.1 1 11).toInt ∧ (t.1 1 11).toInt ≤ 60 := hR 1 11
  refine ⟨fun z => w.1 (by rcases z with z | z | z; exact Or.inl z; exact Or.inr (Or.inl z); exact Or.inr (Or.inr (Or.inl z))), fun z => ⟨w.2 z, ?_⟩⟩
  have q := (hR 1 (p + 3)).2
  have e : rM 1 (p + 3) = rS (p + 3) := by
    show rS ((p + 3) % 480) = _
    rw [Nat.mod_eq_of_lt (by omega)]
  rw [e, rS_tri (by omega)] at q
  exact q
theorem pk_does {t0 t : Sg} (B : BdK t) (W : RwP t) (K : PK t0 t) {a : Int32} {k : Nat} (ha : a.toInt = ((110 + 6 * k : Nat) : Int)) (hk : k ≤ 60) (hl : (k : Int) < (t.1 1 11).toInt) : PQ (f_X12_does a t) (fun _ t' => PK t0 t') := by
  have e1 : (1 : Int32).toInt = 1 := rfl
  have e2 : (2 : Int32).toInt = 2 := rfl
  have e3 : (3 : Int32).toInt = 3 := rfl
  have w := W (110 + 6 * k) (by omega) (by omega) (by omega)
  have d0 : a.toNatClampNeg = 110 + 6 * k := cl_h ha
  have d1 : (a + 1).toNatClampNeg = 110 + 6 * k + 1 := cl_h (by rw [i_addx _ _ (by omega)]; omega)
  have d3 : (a + 3).toNatClampNeg = 110 + 6 * k + 3 := cl_h (by rw [i_addx _ _ (by omega)]; omega)
  unfold f_X12_does
  have st : PQ (some ((1 : Int32), t)) (fun _ t' => PK t0 t') := pq_s K
  refine pq_c (fun _ => pq_n (fun x2 f2 => pq_c (fun _ => pq_n (fun x4 _ => pq_c (fun _ => ?_)))))
  rw [d0]
  rw [d1] at f2
  generalize t.1 1 (110 + 6 * k) = x0 at w ⊢
  refine pq_if (fun _ => ?_) (fun _ => ?_)
  · refine pq_b (ft_X12_draw t) (fun r6 t7 f => ?_)
    have K7 : PK t0 t7 := pk_f K f rfl rfl
    have B7 : BdK t7 := bd_x B (fun p _ => fr_e f 1 p 1 rfl rfl) (fr_e f 0 24 44 rfl rfl)
    unfold f_X12_rains
    exact pq_if (fun _ => pq_b (kl_rains (w := true) B7 BIG 0 0 0 t7 rfl (by decide) kl_r) (fun r8 t9 k => pq_s (pk_o (pk_kl K7 k) (by decide) (fun z => absurd z (by decide))))) (fun _ => pq_s K7)
  refine pq_if (fun _ => st) (fun _ => ?_)
  refine pq_if (fun _ => st) (fun _ => ?_)
  refine pq_if (fun _ => st) (fun _ => ?_)
  refine pq_if (fun _ => st) (fun _ => ?_)
  refine pq_if (fun _ => st) (fun _ => ?_)
  refine pq_if (fun _ => st) (fun _ => ?_)
  refine pq_if (fun _ => st) (fun _ => ?_)
  refine pq_if (fun _ => st) (fun _ => ?_)
  refine pq_if (fun _ => st) (fun _ => ?_)
  refine pq_if (fun _ => st) (fun _ => ?_)
  refine pq_if (fun _ => st) (fun _ => ?_)
  refine pq_if (fun _ => st) (fun _ => ?_)
  refine pq_if (fun _ => st) (fun _ => ?_)
  refine pq_if (fun _ => st) (fun _ => ?_)
  refine pq_if (fun c => ?_) (fun _ => ?_)
  · have v := w.1 (Or.inl (by rw [c]; rfl))
    have hn : x2.toInt = (x2.toInt.toNat : Int) := by rw [f2]; omega
    have h8 : x2.toInt.toNat < 8 := by rw [f2]; omega
    refine pq_b (room_m hn h8 x4 t) (fun r10 t11 g => ?_)
    obtain ⟨et, -⟩ := g
    subst et
    exact pq_if (fun _ => pq_s K) (fun _ => pq_b (kl_strews (w := true) kl_r hn h8 x4) (fun _ t13 g => pq_s (pk_kl K g)))
  refine pq_if (fun c => ?_) (fun _ => ?_)
  · have v := w.1 (Or.inr (Or.inl (by rw [c]; rfl)))
    have u := w.2 (by rw [c]; rfl)
    have hn : x2.toInt = (x2.toInt.toNat : Int) := by rw [f2]; omega
    have h8 : x2.toInt.toNat < 8 := by rw [f2]; omega
    refine pq_b (room_m hn h8 x4 t) (fun r10 t11 g => ?_)
    obtain ⟨et, -⟩ := g
    subst et
    refine pq_if (fun _ => pq_s K) (fun _ => pq_c (fun _ => pq_c (fun _ => pq_if (fun _ => ?_) (fun _ => pq_s K))))
    rw [d3]
    exact pq_b (kl_buys (w := true) kl_r (g := (t11.1 1 (110 + 6 * k + 3)).toInt.toNat) (by omega) (by omega) hn h8 x4) (fun _ t13 g => pq_s (pk_kl K g))
  refine pq_if (fun c => ?_) (fun _ => ?_)
  · have v := w.1 (Or.inr (Or.inr (by rw [c]; rfl)))
    have hn : x2.toInt = (x2.toInt.toNat : Int) := by rw [f2]; omega
    have h8 : x2.toInt.toNat < 8 := by rw [f2]; omega
    exact pq_b (kl_sweeps (w := true) kl_r hn h8) (fun r t13 g => pq_if (fun _ => pq_s (pk_kl K g)) (fun _ => pq_s (pk_kl K g)))
  refine pq_if (fun c => ?_) (fun _ => ?_)
  · unfold f_X12_snows
    exact pq_b (kl_snows (w := true) B x2 BIG 0 0 t rfl (by decide) kl_r) (fun r t13 g => pq_s (pk_kl K g))
  refine pq_if (fun c => ?_) (fun _ => st)
  refine pq_if (fun _ => pq_s K) (fun _ => pq_b (kl_night B) (fun _ t25 g => pq_n (fun t26 e26 => pq_n (fun t27 e27 => pq_s ?_))))
  rw [e27, e26]
  exact pk_o (pk_o (pk_kl K g) (by decide) (fun z => absurd z (by decide))) (by decide) (fun z => absurd z (by decide))
def RwQ (t : Sg) : Prop := RwP t ∧ (t.1 1 11).toInt ≤ 60 ∧ ∀ k : Nat, (k : Int) < (t.1 1 11).toInt → 0 ≤ (t.1 1 (110 + 6 * k + 4)).toInt ∧ (t.1 1 (110 + 6 * k + 4)).toInt ≤ 59
theorem rwq_of {t : Sg} (hR : Rg rM t) (h : RowM t) : RwQ t := by
  have r11 : -1 ≤ (t.1 1 11).toInt ∧ (t.1 1 11).toInt ≤ 60 := hR 1 11
  refine ⟨rwp_of hR h, r11.2, fun k hk => ?_⟩
  have q := hR 1 (110 + 6 * k + 4)
  have e : rM 1 (110 + 6 * k + 4) = (0, 59) := by
    show rS ((110 + 6 * k + 4) % 480) = _
    rw [Nat.mod_eq_of_lt (by omega)]
    unfold rS
    rw [if_neg (by omega), if_neg (by omega), if_neg (by omega), if_neg (by omega), if_neg (by omega), if_neg (by omega), if_neg (by omega), if_pos (by omega), if_pos (by omega)]
  rw [e] at q
  exact q
theorem rwq_x {t0 t : Sg} (h : RwQ t0) (k : ∀ p, ((110 ≤ p ∧ p < 2400) ∨ p = 11) → t.1 1 p = t0.1 1 p) : RwQ t := by
  have e := k 11 (Or.inr rfl)
  have r := h.2.1
  refine ⟨fun p h1 h2 h3 => ?_, by rw [e]; exact h.2.1, fun j hj => ?_⟩
  · rw [e] at h3
    rw [k p (Or.inl (by omega)), k (p + 1) (Or.inl (by omega)), k (p + 3) (Or.inl (by omega))]
    exact h.1 p h1 h2 h3
  · rw [e] at hj
    rw [k _ (Or.inl (by omega))]
    exact h.2.2 j hj
theorem rwq_k {t0 t : Sg} (h : RwQ t0) (k : PK t0 t) : RwQ t := rwq_x h (fun p hp => k.1 p (hp.elim (fun z => Or.inl z.1) (fun z => Or.inr (Or.inr z))))
def PqO {α : Type} (t0 : Sg) (k : Int32 → Sg → Option (α × Sg)) (Q : α → Sg → Prop) : Prop := ∀ v t, PK t0 t → 0 ≤ v.toInt ∧ v.toInt ≤ 60 → PQ (k v t) Q
def RbQ (t0 : Sg) : Int32 → Sg → Prop := fun r t' => PK t0 t' ∧ 0 ≤ r.toInt ∧ r.toInt ≤ 60
theorem be_76 {t0 : Sg} {k : Int32 → Sg → Option (Int32 × Sg)} (hk : PqO t0 k (RbQ t0)) (v2 v3 x : Int32) {t : Sg} (K : PK t0 t) (h2 : 0 ≤ v2.toInt ∧ v2.toInt ≤ 59) (h3 : 0 ≤ v3.toInt ∧ v3.toInt ≤ 59) : PQ (f_X12_behindEnds_b76 k v2 v3 x t) (RbQ t0) := by
  have e1 : (1 : Int32).toInt = 1 := rfl
  have n2 : (v2 + 1).toInt = v2.toInt + 1 := by rw [i_addx _ _ (by omega)]; omega
  have n3 : (v3 + 1).toInt = v3.toInt + 1 := by rw [i_addx _ _ (by omega)]; omega
  have b : ∀ x0 x1, PQ (f_X12_behindEnds_b95 k v2 v3 x x0 x1 v3 t) (RbQ t0) := fun x0 x1 => by
    unfold f_X12_behindEnds_b95
    refine pq_c (fun _ => pq_n (fun t8 e8 => ?_))
    have K8 : PK t0 t8 := by rw [e8]; exact pk_o K (by decide) (fun z => absurd z (by decide))
    exact pq_if (fun _ => hk _ t8 K8 (by omega)) (fun _ => hk _ t8 K8 (by omega))
  unfold f_X12_behindEnds_b76
  exact pq_c (fun _ => pq_if (fun _ => by rename_i c; rw [c] at b ⊢; exact b _ _) (fun _ => b _ _))
theorem be_2 {t0 : Sg} (W : RwQ t0) (m : Nat) : PqO t0 (f_X12_behindEnds_b2 m) (RbQ t0) := by
  induction m with
  | zero => intro v t _ _ r t' z; cases z
  | succ m ih =>
    intro v2 t K hv
    have e4 : (4 : Int32).toInt = 4 := rfl
    have e6 : (6 : Int32).toInt = 6 := rfl
    have e110 : (110 : Int32).toInt = 110 := rfl
    have e11 := K.1 11 (Or.inr (Or.inr rfl))
    have w1 := W.2.1
    unfold f_X12_behindEnds_b2
    refine pq_if (fun _ => pq_s ⟨K, hv⟩) (fun c => pq_c (fun _ => pq_if (fun _ => pq_c (fun _ => pq_n (fun x3 f3 => ?_))) (fun _ => pq_s ⟨K, hv⟩)))
    have c := i_nle c
    rw [e11] at c
    have m6 : (6 * v2).toInt = 6 * v2.toInt := i_mulx 6 v2 (show -2147483648 ≤ 6 * v2.toInt ∧ 6 * v2.toInt ≤ 2147483647 from by omega)
    have x1 : (110 + 6 * v2).toInt = 110 + 6 * v2.toInt := by rw [i_addx _ _ (by omega)]; omega
    have d4 : ((110 + 6 * v2) + 4).toNatClampNeg = 110 + 6 * v2.toInt.toNat + 4 := cl_h (by rw [i_addx _ _ (by omega)]; omega)
    rw [d4, K.1 _ (Or.inl (by omega))] at f3
    have r3 := W.2.2 v2.toInt.toNat (by omega)
    rw [← f3] at r3
    have b : ∀ x, PQ (f_X12_behindEnds_b76 (f_X12_behindEnds_b2 m) v2 x3 x t) (RbQ t0) := fun x => be_76 ih v2 x3 x K (by omega) r3
    exact pq_c (fun _ => pq_if (fun _ => pq_c (fun _ => pq_if (fun _ => b 0) (fun _ => b 1))) (fun _ => b 0))
theorem be_p {t0 : Sg} (W : RwQ t0) (v : Int32) {t : Sg} (K : PK t0 t) (h : 0 ≤ v.toInt ∧ v.toInt ≤ 60) : PQ (f_X12_behindEnds v t) (RbQ t0) := by
  unfold f_X12_behindEnds
  exact be_2 W BIG v t K h
theorem pk_140 {t0 : Sg} (W : RwQ t0) {k : Int32 → Sg → Option (Unit × Sg)} (hk : PqO t0 k (fun _ t' => PK t0 t')) (v2 v3 : Int32) (t : Sg) (K : PK t0 t) (h : 0 ≤ v2.toInt ∧ v2.toInt < (t0.1 1 11).toInt) (h3 : v3.toInt = 110 + 6 * v2.toInt) : PQ (f_X12_lives_b140 k v2 v3 t) (fun _ t' => PK t0 t') := by
  have e1 : (1 : Int32).toInt = 1 := rfl
  have e4 : (4 : Int32).toInt = 4 := rfl
  have w1 := W.2.1
  have n2 : (v2 + 1).toInt = v2.toInt + 1 := by rw [i_addx _ _ (by omega)]; omega
  have d4 : (v3 + 4).toNatClampNeg = 110 + 6 * v2.toInt.toNat + 4 := cl_h (by rw [i_addx _ _ (by omega)]; omega)
  have r3 := W.2.2 v2.toInt.toNat (by omega)
  have go : ∀ v t1, PK t0 t1 → 0 ≤ v.toInt ∧ v.toInt ≤ 60 → PQ (bd (f_X12_behindEnds v t1) (fun r t12 => k r t12)) (fun _ t' => PK t0 t') := fun v t1 K1 hv => pq_b (be_p W v K1 hv) (fun r t12 g => hk r t12 g.1 g.2)
  unfold f_X12_lives_b140
  refine pq_c (fun _ => pq_if (fun _ => go _ t K (by omega)) (fun _ => pq_b (ft_X12_holds v3 t) (fun r13 t14 f => ?_)))
  have K14 : PK t0 t14 := pk_f K f rfl rfl
  refine pq_if (fun _ => pq_c (fun _ => go _ t14 K14 ?_)) (fun _ => go _ t14 K14 (by omega))
  rw [d4, K14.1 _ (Or.inl (by omega)), i_addx _ _ (by omega)]
  omega
theorem pk_111 {t0 : Sg} (W : RwQ t0) {k : Int32 → Sg → Option (Unit × Sg)} (hk : PqO t0 k (fun _ t' => PK t0 t')) (v2 v3 a b c : Int32) (t : Sg) (K : PK t0 t) (h : 0 ≤ v2.toInt ∧ v2.toInt < (t0.1 1 11).toInt) (h3 : v3.toInt = 110 + 6 * v2.toInt) : PQ (f_X12_lives_b111 k v2 v3 a b c t) (fun _ t' => PK t0 t') := by
  unfold f_X12_lives_b111
  refine pq_c (fun _ => pq_n (fun t5 e5 => ?_))
  have K5 : PK t0 t5 := by rw [e5]; exact pk_o K (by decide) (fun z => absurd z (by decide))
  refine pq_c (fun _ => pq_if (fun _ => pq_c (fun _ => pq_c (fun _ => pq_n (fun t9 e9 => pk_140 W hk v2 v3 t9 ?_ h h3)))) (fun _ => pk_140 W hk v2 v3 t5 K5 h h3))
  rw [e9]
  exact pk_o K5 (by decide) (fun z => absurd z (by decide))
theorem pk_32 {t0 : Sg} (B : BdK t0) (W : RwQ t0) (m : Nat) : PqO t0 (f_X12_lives_b32 m) (fun _ t' => PK t0 t') := by
  induction m with
  | zero => intro v t _ _ r t' z; cases z
  | succ m ih =>
    intro v2 t K hv
    have e6 : (6 : Int32).toInt = 6 := rfl
    have e110 : (110 : Int32).toInt = 110 := rfl
    have e11 := K.1 11 (Or.inr (Or.inr rfl))
    have w1 := W.2.1
    have up : ∀ v, PK t0 (pI t 0 30 v) := fun v => pk_o K (by decide) (fun _ => by decide)
    unfold f_X12_lives_b32
    refine pq_if (fun _ => pq_s K) (fun c => pq_if (fun _ => pq_s (pk_o K (by decide) (fun z => absurd z (by decide)))) (fun _ => pq_c (fun _ => pq_if (fun _ => pq_s (up _)) (fun _ => ?_))))
    have c := i_nle c
    rw [e11] at c
    have m6 : (6 * v2).toInt = 6 * v2.toInt := i_mulx 6 v2 (show -2147483648 ≤ 6 * v2.toInt ∧ 6 * v2.toInt ≤ 2147483647 from by omega)
    have x1 : (110 + 6 * v2).toInt = 110 + 6 * v2.toInt := by rw [i_addx _ _ (by omega)]; omega
    have h2 : 0 ≤ v2.toInt ∧ v2.toInt < (t0.1 1 11).toInt := by omega
    have K1 := up ((t.1 0 30) + 1)
    refine pq_b (pk_does (bd_pk B K1) (rwq_k W K1).1 K1 (k := v2.toInt.toNat) (by omega) (by omega) (by rw [q_nc rfl, e11]; omega)) (fun r2 t3 K3 => ?_)
    exact pq_if (fun _ => pk_111 W ih _ _ _ _ _ t3 K3 h2 x1) (fun _ => pk_111 W ih _ _ _ _ _ t3 K3 h2 x1)
theorem pk_12 {t0 : Sg} (B : BdK t0) (W : RwQ t0) (m : Nat) : ∀ (v : Int32) (t : Sg), PK t0 t → PQ (f_X12_lives_b12 m v t) (fun _ t' => PK t0 t') := by
  induction m with
  | zero => intro v t _ r t' z; cases z
  | succ m ih =>
    intro v t K
    unfold f_X12_lives_b12
    exact pq_if (fun _ => pk_32 B W BIG 0 t K (by decide)) (fun _ => pq_c (fun _ => ih (v + 1) _ (pk_o K (by decide) (fun z => absurd z (by decide)))))
theorem pk_lives (a : Int32) {t0 t : Sg} (B : BdK t0) (W : RwQ t0) (K : PK t0 t) : PQ (f_X12_lives a t) (fun _ t' => PK t0 t') := by
  unfold f_X12_lives
  exact pk_12 B W BIG 0 _ (pk_o (pk_o K (by decide) (fun _ => by decide)) (by decide) (fun _ => by decide))
theorem pk_43 {t0 : Sg} (m : Nat) : ∀ (v : Int32) (t : Sg), PK t0 t → PQ (f_X12_live_b43 m v t) (fun _ t' => PK t0 t') := by
  induction m with
  | zero => intro v t _ r t' z; cases z
  | succ m ih =>
    intro v t K
    unfold f_X12_live_b43
    refine pq_if (fun _ => pk_gv (pk_o K (by decide) (fun _ => by decide)) _) (fun _ => pq_c (fun _ => pq_n (fun t12 e => ih (v + 1) t12 ?_)))
    rw [e]
    exact pk_o K (by decide) (fun z => absurd z (by decide))
theorem pk_live (a : Int32) {t : Sg} (B : BdK t) (W : RwQ t) : PQ (f_X12_live a t) (fun _ t' => PK t t') := by
  unfold f_X12_live
  refine pq_b (from_m a 0 9999 t) (fun r1 t2 k => ?_)
  obtain ⟨et, -⟩ := k
  subst et
  exact pq_if (fun _ => pk_rf pk_r 1) (fun _ => pq_if (fun _ => pk_rf pk_r 6) (fun _ => pq_b (pk_lives a B W pk_r) (fun _ t8 K => pk_43 BIG 0 t8 K)))
/-- odds: what is lived is taken back -/
def SvD (t0 t : Sg) : Prop := SvW t0 t ∧ ∀ p, ((110 ≤ p ∧ p < 2400) ∨ PlP p ∨ p = 11) → t.1 1 p = t0.1 1 p
theorem svd_lives (a : Int32) {t0 t : Sg} (B : BdK t0) (W : RwQ t0) (h : SvD t0 t) : PQ (f_X12_lives a t) (fun _ t' => SvD t0 t') :=
  pq_w (pk_lives a (bd_x B (fun p hp => h.2 p (Or.inr (Or.inl hp))) h.1.2) (rwq_x W (fun p hp => h.2 p (hp.elim Or.inl (fun z => Or.inr (Or.inr z))))) pk_r) (fun _ t' k => ⟨⟨fun p hp => (k.1 _ (Or.inl (by omega))).trans (h.1.1 p hp), k.2.trans h.1.2⟩, fun p hp => (k.1 p (hp.elim (fun z => Or.inl z.1) Or.inr)).trans (h.2 p hp)⟩)
theorem svd_f {L : Nat} {t0 t t' : Sg} (h : SvD t0 t) (f : Fr cdN L t t') (e1 : L.testBit 1 = false) (e2 : L.testBit 44 = false) : SvD t0 t' :=
  ⟨⟨fun k hk => (fr_e f 1 _ 1 rfl e1).trans (h.1.1 k hk), (fr_e f 0 24 44 rfl e2).trans h.1.2⟩, fun p hp => (fr_e f 1 p 1 rfl e1).trans (h.2 p hp)⟩
theorem svd_t {t0 t : Sg} (h : SvD t0 t) : PQ (f_X12_takesBack t) (fun _ t' => SvD t0 t' ∧ RsM t0 t') := pq_w (sv_t t) (fun _ t' g => by
  have r : RsM t0 t' := ⟨fun p hp => (g.1 p hp).trans (h.1.1 p hp), by rw [g.2.2.1 0 (by decide)]; exact h.1.2⟩
  refine ⟨⟨⟨fun p hp => (g.2.1 _ (by omega)).trans (h.1.1 p hp), r.2⟩, fun p hp => ?_⟩, r⟩
  rcases hp with z | z | z
  · exact (g.2.1 p z.1).trans (h.2 p (Or.inl z))
  · exact r.1 p (plp_lt z).1
  · rw [z]
    exact r.1 11 (by decide))
theorem svd_k {t : Sg} : PQ (f_X12_keepsAll t) (fun _ t' => SvD t t' ∧ RsM t t') := pq_w (sv_k t) (fun _ t' g => ⟨⟨g.1, fun p hp => g.2.1 p (by
  rcases hp with z | z | z
  · exact z.2
  · have := (plp_lt z).1
    omega
  · omega)⟩, fun p hp => g.2.1 p (by omega), g.1.2⟩)
theorem rs_f {L : Nat} {t0 t t' : Sg} (h : RsM t0 t) (f : Fr cdN L t t') (e1 : L.testBit 1 = false) (e2 : L.testBit 44 = false) : RsM t0 t' := ⟨fun p hp => (fr_e f 1 p 1 rfl e1).trans (h.1 p hp), (fr_e f 0 24 44 rfl e2).trans h.2⟩
theorem rs_77 {t0 : Sg} (B : BdK t0) (W : RwQ t0) (v1 v2 v3 : Int32) (m : Nat) : ∀ (v4 v5 : Int32) (t : Sg), SvD t0 t → RsM t0 t → PQ (f_X12_odds_b77 m v1 v2 v3 v4 v5 t) (fun _ t' => RsM t0 t') := by
  induction m with
  | zero => intro v4 v5 t _ _ r t' z; cases z
  | succ m ih =>
    intro v4 v5 t h r
    unfold f_X12_odds_b77
    refine pq_if (fun _ => pq_b (ft_X12_tellsBy _ _ t) (fun r17 t18 f => pq_c (fun _ => pq_s (rs_f r f rfl rfl)))) (fun _ => pq_b (svd_lives _ B W h) (fun _ t20 h20 => pq_b (ft_X12_setOf 2 t20) (fun r21 t22 f => ?_)))
    have h22 := svd_f h20 f rfl rfl
    exact pq_if (fun _ => pq_b (svd_t h22) (fun _ t24 g => ih _ _ t24 g.1 g.2)) (fun _ => pq_b (svd_t h22) (fun _ t24 g => ih _ _ t24 g.1 g.2))
theorem rs_odds (a b c : Int32) {t : Sg} (B : BdK t) (W : RwQ t) : PQ (f_X12_odds a b c t) (fun _ t' => RsM t t') := by
  unfold f_X12_odds
  refine pq_b (ft_X12_isSetOf a t) (fun r1 t2 f => ?_)
  have p2 : RsM t t2 := rs_f rs_r f rfl rfl
  have B2 : BdK t2 := bd_x B (fun p _ => fr_e f 1 p 1 rfl rfl) p2.2
  have W2 : RwQ t2 := rwq_x W (fun p _ => fr_e f 1 p 1 rfl rfl)
  refine pq_if (fun _ => rs_is p2 1) (fun _ => pq_b (from_m b 0 9999 t2) (fun r5 t6 k => ?_))
  obtain ⟨et, -⟩ := k
  subst et
  refine pq_if (fun _ => rs_is p2 1) (fun _ => pq_b (from_m c 1 20 t6) (fun r9 t10 k => ?_))
  obtain ⟨et, -⟩ := k
  subst et
  refine pq_if (fun _ => rs_is p2 1) (fun _ => pq_if (fun _ => pq_if (fun _ => rs_is p2 6) (fun _ => pq_b svd_k (fun _ t16 g => ?_))) (fun _ => rs_is p2 1))
  exact pq_w (rs_77 B2 W2 a b c BIG 0 0 t16 g.1 g.2) (fun _ t' g => ⟨fun p hp => (g.1 p hp).trans (p2.1 p hp), g.2.trans p2.2⟩)
theorem pmk_k {L : Nat} {t t' : Sg} (K : PK t t') (f : Fr cdM L t t') (e : L.testBit 2 = false) : PmK t t' := ⟨fun k hk => K.1 k (plq hk), fun k _ => fm_2 f e k, K.2⟩
theorem pmk_s {L : Nat} {t t' : Sg} (K : RsM t t') (f : Fr cdM L t t') (e : L.testBit 2 = false) : PmK t t' := ⟨fun k hk => K.1 k (plp_lt hk).1, fun k _ => fm_2 f e k, K.2⟩
/-! what is asked of the plan alone: cat, ghosts, hopeless, reaches, chain -/
def AnQ (r : Int32) (s : Sg) (r' : Int32) (t : Sg) : Prop := r = r' ∧ s.1 0 15 = t.1 0 2
theorem aq_rf (s t : Sg) (w : Int32) : RQ (bd (f_X11_refuse w s) (fun r s => some (r, s))) (bd (f_X12_refuse w t) (fun r t => some (r, t))) AnQ := by
  have q : RQ (some ((-1 : Int32), pI s 0 15 w)) (some ((-1 : Int32), pI t 0 2 w)) AnQ := rq_s ⟨rfl, by rw [q_eq, q_eq]⟩
  exact q
theorem aq_an (s t : Sg) {v v' : Int32} (e : v = v') : RQ (bd (f_X11_answer v s) (fun r s => some (r, s))) (bd (f_X12_gives v' t) (fun r t => some (r, t))) AnQ := by
  have q : RQ (some (v, pI s 0 15 0)) (some (v', pI t 0 2 0)) AnQ := rq_s ⟨e, by rw [q_eq, q_eq]⟩
  exact q
theorem cat_q {s t : Sg} (P : PlnR 24 s (t.1 1)) (a b : Int32) : RQ (f_X11_cat a b s) (f_X12_cat a b t) AnQ := by
  have e15 : s.1 25 15 = t.1 1 2 := P.1.2.2.1
  have sb := i_sub (s.1 25 15) 1
  have bb := P.2.1.2.2.1
  have z0 : (0 : Int32).toInt = 0 := rfl
  have z1 : (1 : Int32).toInt = 1 := rfl
  have z2 : (2 : Int32).toInt = 2 := rfl
  unfold f_X11_cat f_X12_cat
  refine rq_bC (wi_p a 0 ((s.1 25 15) - 1) s) (fun r1 s2 g => ?_)
  obtain ⟨es, g⟩ := g
  subst es
  rw [e15] at sb g
  rcases g with ⟨z, g1, g2⟩ | ⟨z, g⟩ <;> subst z
  · rw [if_neg i10]
    have hc : (a.toInt.toNat : Int) < (t.1 1 2).toInt := by omega
    have ha : a.toInt = (a.toInt.toNat : Int) := by omega
    have c4 : a.toInt.toNat < 4 := by omega
    have x := cx_x ha c4
    have pc := (P.2.2.2.2.2.1 a.toInt.toNat hc).1
    refine rq_iM (fun c => absurd (i_lt c) (by omega)) (fun _ => rq_iM (fun c => absurd (i_le c) (by omega)) (fun _ => ?_))
    refine rq_iC (fun c => ?_) (fun n0 => rq_iC (fun c => ?_) (fun n1 => rq_iC (fun c => ?_) (fun n2 => ?_)))
    · subst c
      refine rq_iM (fun c => absurd c (by decide)) (fun _ => rq_iM (fun c => absurd c (by decide)) (fun _ => rq_cC (fun _ => rq_cM (fun _ => aq_an s2 t ?_))))
      have d : ((80 + (3 * a)) + 0).toNatClampNeg = 80 + 3 * a.toInt.toNat := by
        rw [show (80 + (3 * a)) + 0 = 80 + (3 * a) from Int32.toInt_inj.mp (by
          have m1 : (3 * a).toInt = 3 * a.toInt := i_mulx 3 a (show -2147483648 ≤ 3 * a.toInt ∧ 3 * a.toInt ≤ 2147483647 from by omega)
          have e80 : (80 : Int32).toInt = 80 := rfl
          have m2 : (80 + (3 * a)).toInt = 80 + 3 * a.toInt := by rw [i_addx _ _ (by omega)]; omega
          rw [i_addx _ _ (by omega)]
          omega)]
        exact x.1
      rw [cl_h ha, d]
      exact pc.1
    · subst c
      refine rq_iM (fun c => absurd c (by decide)) (fun _ => rq_iM (fun c => absurd c (by decide)) (fun _ => rq_cC (fun _ => rq_cM (fun _ => aq_an s2 t ?_))))
      rw [cl_h ha, x.2.1]
      exact pc.2.1
    · subst c
      refine rq_iM (fun c => absurd c (by decide)) (fun _ => rq_iM (fun c => absurd c (by decide)) (fun _ => rq_cC (fun _ => rq_cM (fun _ => aq_an s2 t ?_))))
      rw [cl_h ha, x.2.2]
      exact pc.2.2
    · refine rq_iM (fun _ => aq_rf s2 t 1) (fun c => rq_iM (fun _ => aq_rf s2 t 1) (fun d => ?_))
      have c := i_nlt c
      have d := i_nlt d
      have m0 : ¬ b.toInt = 0 := fun z => n0 (Int32.toInt_inj.mp (z.trans z0.symm))
      have m1 : ¬ b.toInt = 1 := fun z => n1 (Int32.toInt_inj.mp (z.trans z1.symm))
      have m2 : ¬ b.toInt = 2 := fun z => n2 (Int32.toInt_inj.mp (z.trans z2.symm))
      omega
  · rw [if_pos rfl]
    refine rq_iM (fun _ => aq_rf s2 t 1) (fun c => rq_iM (fun _ => aq_rf s2 t 1) (fun d => ?_))
    have c := i_nlt c
    have d := i_nle d
    omega
/-! sets, by their bits -/
theorem ends_h {M : Nat → Int32} {s : Sg} (P : PlnR 24 s M) {x : Nat} (hx : (x : Int) < (M 1).toInt) : ((M (40 + 5 * x)).toInt = (h0 M x : Int) ∧ (M (41 + 5 * x)).toInt = (h1 M x : Int)) ∧ (h0 M x < 8 ∧ h1 M x < 8) ∧ ((h0 M x : Int) < (M 0).toInt ∧ (h1 M x : Int) < (M 0).toInt) ∧ ¬ h0 M x = h1 M x ∧ x < 8 := by
  have pq := pln_q P hx
  have c := pq.2.2.1
  have d := pq.2.2.2.1
  have n := pq.2.2.2.2
  have n0 : (M (40 + 5 * x)).toInt = (h0 M x : Int) := by
    unfold h0
    have := c.1
    omega
  have n1 : (M (41 + 5 * x)).toInt = (h1 M x : Int) := by
    unfold h1
    have := c.2
    omega
  have c1 := c.1
  have c2 := c.2
  refine ⟨⟨n0, n1⟩, by omega, by omega, fun z => n (Int32.toInt_inj.mp (by rw [n0, n1, z])), pq.1⟩
theorem at_h {M : Nat → Int32} {s : Sg} (P : PlnR 24 s M) {x h : Nat} (hx : (x : Int) < (M 1).toInt) : atB M x h = true ↔ (h = h0 M x ∨ h = h1 M x) := by
  have e := (ends_h P hx).1
  unfold atB
  rw [e.1, e.2]
  constructor
  · intro w
    have w := of_decide_eq_true w
    omega
  · intro w
    exact decide_eq_true (by omega)
def BiC (s : Sg) (Bt : Nat → Prop) (r : Int32) (s' : Sg) : Prop := s'.1 0 15 = 0 ∧ ∀ x, x < 32 → (bt r x = true ↔ Bt x)
def BiM (Bt : Nat → Prop) (r : Int32) (t' : Sg) : Prop := t'.1 0 2 = 0 ∧ ∀ x, x < 32 → (bt r x = true ↔ Bt x)
theorem bt_iff {r r' : Int32} {Bt : Nat → Prop} (h : ∀ x, x < 32 → (bt r x = true ↔ Bt x)) (g : ∀ x, x < 32 → (bt r' x = true ↔ Bt x)) : r = r' := bt_ext (fun i hi => by
  have a := h i hi
  have b := g i hi
  cases x : bt r i <;> cases y : bt r' i
  · rfl
  · exact absurd (a.mpr (b.mp y)) (by rw [x]; decide)
  · exact absurd (b.mpr (a.mp x)) (by rw [y]; decide)
  · rfl)
theorem aq_bi {s : Sg} {Bt : Nat → Prop} {oC oM : Option (Int32 × Sg)} (h : PQ oC (BiC s Bt)) (g : PQ oM (BiM Bt)) : RQ oC oM AnQ := rq_pp h g (fun _ _ _ _ a b => ⟨bt_iff a.2 b.2, a.1.trans b.1.symm⟩)
theorem bi_an {s u : Sg} {Bt : Nat → Prop} {v : Int32} (h : ∀ x, x < 32 → (bt v x = true ↔ Bt x)) : PQ (bd (f_X11_answer v u) (fun r s => some (r, s))) (BiC s Bt) := by
  have q : PQ (some (v, pI u 0 15 0)) (BiC s Bt) := pq_s ⟨q_eq, h⟩
  exact q
theorem bi_gv {u : Sg} {Bt : Nat → Prop} {v : Int32} (h : ∀ x, x < 32 → (bt v x = true ↔ Bt x)) : PQ (bd (f_X12_gives v u) (fun r s => some (r, s))) (BiM Bt) := by
  have q : PQ (some (v, pI u 0 2 0)) (BiM Bt) := pq_s ⟨q_eq, h⟩
  exact q
theorem or_bit {v a : Int32} {q : Nat} (ha : a.toInt = (q : Int)) (hq : q < 32) (x : Nat) : bt (v ||| ((1 : Int32) <<< (a &&& 31))) x = true ↔ (bt v x = true ∨ x = q) := by
  rw [bt_or, bitI_v ha hq, bt_bit hq]
  constructor
  · intro w
    rcases Bool.or_eq_true_iff.mp w with w | w
    · exact Or.inl w
    · exact Or.inr (of_decide_eq_true w)
  · rintro (w | w)
    · exact Bool.or_eq_true_iff.mpr (Or.inl w)
    · exact Bool.or_eq_true_iff.mpr (Or.inr (decide_eq_true w))
theorem or_0 (v : Int32) (x : Nat) : bt (v ||| 0) x = true ↔ bt v x = true := by
  rw [bt_or, bt_0, Bool.or_false]
/-! the reference's sets -/
theorem so_90 {k : Int32 → Int32 → Int32 → Sg → Option (Int32 × Sg)} {v1 v2 v3 r : Int32} {t : Sg} {q : Nat} {p : Prop} {Q : Int32 → Sg → Prop} (h3 : v3.toInt = (q : Int)) (hq : q < 32) (hr : Fl p r) (hk : ∀ v, (∀ x, x < 32 → (bt v x = true ↔ (bt v2 x = true ∨ (x = q ∧ p)))) → PQ (k v1 v (v3 + 1) t) Q) : PQ (f_X12_setOf_b90 k v1 v2 v3 r t) Q := by
  unfold f_X12_setOf_b90
  refine pq_if (fun c => hk _ (fun x _ => ?_)) (fun c => pq_n (fun x3 e => hk _ (fun x _ => ?_)))
  · rw [or_0]
    exact ⟨Or.inl, fun w => w.elim id (fun y => absurd y.2 (r1_n hr c))⟩
  · rw [e, or_bit h3 hq]
    exact ⟨fun w => w.elim Or.inl (fun y => Or.inr ⟨y, r1_y hr c⟩), fun w => w.elim Or.inl (fun y => Or.inr y.1)⟩
noncomputable def SoB (k : Int32 → Int32 → Int32 → Sg → Option (Int32 × Sg)) (v1 v2 v3 : Int32) (t : Sg) : Option (Int32 × Sg) :=
  if v1 = 0 then bd (f_X12_hasPeace v3 t) (fun r1 s2 => f_X12_setOf_b90 k v1 v2 v3 r1 s2)
  else if v1 = 1 then bd (f_X12_isSome v3 0 t) (fun r4 s5 => if r4 = 0 then f_X12_setOf_b53 k v1 v2 v3 s5 else bd (f_X12_isSome v3 1 s5) (fun r6 s7 => if r6 = 0 then f_X12_setOf_b53 k v1 v2 v3 s7 else f_X12_setOf_b90 k v1 v2 v3 1 s7))
  else if v1 = 2 then bd (f_X12_quarrelRow v3 t) (fun r8 s9 => ck (inr (r8 + 3) 2880) (if (s9.1 1 ((r8 + 3).toNatClampNeg)) = 1 then f_X12_setOf_b90 k v1 v2 v3 1 s9 else f_X12_setOf_b90 k v1 v2 v3 0 s9))
  else bd (f_X12_neverCan v3 t) (fun r11 s12 => f_X12_setOf_b90 k v1 v2 v3 r11 s12)
theorem so_e (m : Nat) (v1 v2 v3 : Int32) (t : Sg) : f_X12_setOf_b4 (m + 1) v1 v2 v3 t = if (t.1 1 1) ≤ v3 then some (v2, t) else SoB (f_X12_setOf_b4 m) v1 v2 v3 t := rfl
def SoH (t : Sg) (v1 : Int32) (Pr : Nat → Prop) : Prop := ∀ (k : Int32 → Int32 → Int32 → Sg → Option (Int32 × Sg)) (v2 v3 : Int32) (q : Nat) (Q : Int32 → Sg → Prop), v3.toInt = (q : Int) → (q : Int) < (t.1 1 1).toInt → (∀ v, (∀ x, x < 32 → (bt v x = true ↔ (bt v2 x = true ∨ (x = q ∧ Pr q)))) → PQ (k v1 v (v3 + 1) t) Q) → PQ (SoB k v1 v2 v3 t) Q
theorem so_b4 {t : Sg} {v1 : Int32} {Pr : Nat → Prop} (b1 : 0 ≤ (t.1 1 1).toInt ∧ (t.1 1 1).toInt ≤ 8) (H : SoH t v1 Pr) (m : Nat) : ∀ (i : Nat) (v2 v3 : Int32), v3.toInt = (i : Int) → (i : Int) ≤ (t.1 1 1).toInt → (∀ x, x < 32 → (bt v2 x = true ↔ (x < i ∧ Pr x))) → PQ (f_X12_setOf_b4 m v1 v2 v3 t) (fun r t' => t' = t ∧ ∀ x, x < 32 → (bt r x = true ↔ ((x : Int) < (t.1 1 1).toInt ∧ Pr x))) := by
  induction m with
  | zero => intro i v2 v3 _ _ _ r t' z; cases z
  | succ m ih =>
    intro i v2 v3 h3 hi h2
    have e1 : (1 : Int32).toInt = 1 := rfl
    rw [so_e]
    refine pq_if (fun c => pq_s ⟨rfl, fun x hx => ?_⟩) (fun c => ?_)
    · have c := i_le c
      rw [h2 x hx]
      exact ⟨fun w => ⟨by omega, w.2⟩, fun w => ⟨by omega, w.2⟩⟩
    · have c := i_nle c
      refine H _ v2 v3 i _ h3 (by omega) (fun v hv => ih (i + 1) v (v3 + 1) (by rw [i_addx _ _ (by omega)]; omega) (by omega) (fun x hx => ?_))
      rw [hv x hx, h2 x hx]
      constructor
      · rintro (w | ⟨w1, w2⟩)
        · exact ⟨by omega, w.2⟩
        · exact ⟨by omega, by rw [w1]; exact w2⟩
      · intro w
        by_cases z : x = i
        · exact Or.inr ⟨z, by rw [← z]; exact w.2⟩
        · exact Or.inl ⟨by omega, w.2⟩
theorem so_p {t : Sg} {v1 : Int32} {Pr : Nat → Prop} (b1 : 0 ≤ (t.1 1 1).toInt ∧ (t.1 1 1).toInt ≤ 8) (H : SoH t v1 Pr) : PQ (f_X12_setOf v1 t) (fun r t' => t' = t ∧ ∀ x, x < 32 → (bt r x = true ↔ ((x : Int) < (t.1 1 1).toInt ∧ Pr x))) := by
  unfold f_X12_setOf
  refine so_b4 b1 H BIG 0 0 0 rfl b1.1 (fun x _ => ?_)
  rw [bt_0]
  exact ⟨fun z => absurd z (by decide), fun z => absurd z.1 (Nat.not_lt_zero _)⟩
/-- a quarrel that never can have peace -/
def NvP (M : Nat → Int32) (q : Nat) : Prop := M 14 = 0 ∧ (bt (M 9) (h0 M q) = true ∨ bt (M 9) (h1 M q) = true)
theorem nev_m {s t : Sg} (P : PlnR 24 s (t.1 1)) {a : Int32} {q : Nat} (ha : a.toInt = (q : Int)) (hq : (q : Int) < (t.1 1 1).toInt) : PQ (f_X12_neverCan a t) (fun r t' => t' = t ∧ Fl (NvP (t.1 1) q) r) := by
  have en := ends_h P hq
  have x := qr_x ha en.2.2.2.2
  unfold f_X12_neverCan
  refine pq_if (fun c => pq_b (qh_p a 0 t) (fun r1 t2 k => pq_c (fun _ => ?_))) (fun c => pq_s ⟨rfl, Or.inr ⟨rfl, fun z => c z.1⟩⟩)
  obtain ⟨et, k⟩ := k
  subst et
  rw [k, x.1]
  refine pq_b (gone_m en.1.1 (by omega) t2) (fun r4 t5 g => ?_)
  obtain ⟨et, g⟩ := g
  subst et
  refine pq_if (fun d => pq_b (qh_p a 1 t5) (fun r6 t7 k => pq_c (fun _ => ?_))) (fun d => pq_s ⟨rfl, Or.inl ⟨rfl, c, Or.inl (r1_y g d)⟩⟩)
  obtain ⟨et, k⟩ := k
  subst et
  rw [k, x.2.1]
  refine pq_b (gone_m en.1.2 (by omega) t7) (fun r9 t10 f => ?_)
  obtain ⟨et, f⟩ := f
  subst et
  exact pq_if (fun e => pq_s ⟨rfl, Or.inr ⟨rfl, fun z => z.2.elim (r1_n g d) (r1_n f e)⟩⟩) (fun e => pq_s ⟨rfl, Or.inl ⟨rfl, c, Or.inr (r1_y f e)⟩⟩)
theorem soh_3 {s t : Sg} (P : PlnR 24 s (t.1 1)) : SoH t 3 (NvP (t.1 1)) := fun k v2 v3 q Q h3 hq hk => by
  unfold SoB
  rw [if_neg (by decide), if_neg (by decide), if_neg (by decide)]
  refine pq_b (nev_m P h3 hq) (fun r t2 g => ?_)
  obtain ⟨et, g⟩ := g
  subst et
  exact so_90 h3 (by have := (ends_h P hq).2.2.2.2; omega) g hk
theorem soh_0 {s t : Sg} (P : PlnR 24 s (t.1 1)) : SoH t 0 (fun q => pcB (t.1 1) (t.1 0 24).toInt q = true) := fun k v2 v3 q Q h3 hq hk => by
  unfold SoB
  rw [if_pos rfl]
  have en := ends_h P hq
  refine pq_b (peace_m h3 en.2.2.2.2 t (pln_q P hq).2.2.1) (fun r t2 g => ?_)
  obtain ⟨et, g⟩ := g
  subst et
  exact so_90 h3 (by have := en.2.2.2.2; omega) g hk
theorem soh_2 {s t : Sg} (P : PlnR 24 s (t.1 1)) : SoH t 2 (fun q => t.1 1 (43 + 5 * q) = 1) := fun k v2 v3 q Q h3 hq hk => by
  unfold SoB
  rw [if_neg (by decide), if_neg (by decide), if_pos rfl]
  have en := ends_h P hq
  have q8 := en.2.2.2.2
  refine pq_b (qrow_p v3 t) (fun r t2 g => pq_c (fun _ => ?_))
  obtain ⟨et, g⟩ := g
  subst et
  rw [g, (qr_x h3 q8).2.2.2.1]
  exact pq_if (fun c => so_90 h3 (by omega) (Or.inl ⟨rfl, c⟩) hk) (fun c => so_90 h3 (by omega) (Or.inr ⟨rfl, c⟩) hk)
/-! hopeless, as the class has it -/
theorem wh_b4 {M : Nat → Int32} {s : Sg} (P : PlnR 24 s M) (m : Nat) : ∀ (i : Nat) (v1 v2 : Int32), v2.toInt = (i : Int) → (i : Int) ≤ (M 0).toInt → (∀ x, x < 32 → (bt v1 x = true ↔ (((x : Int) < (M 1).toInt ∧ M 14 = 0) ∧ ∃ h, h < i ∧ bt (M 9) h = true ∧ atB M x h = true))) → PQ (f_X4_withoutHope_b4 m v1 v2 s) (fun r s' => s' = s ∧ ∀ x, x < 32 → (bt r x = true ↔ ((x : Int) < (M 1).toInt ∧ NvP M x))) := by
  induction m with
  | zero => intro i v1 v2 _ _ _ r s' z; cases z
  | succ m ih =>
    intro i v1 v2 h2 hi h1'
    have e1 : (1 : Int32).toInt = 1 := rfl
    have b0 := P.2.1.1
    have e13 : (s.1 25 13).toInt = (M 0).toInt + 0 := P.1.1
    have e19 : s.1 25 19 = M 14 := P.2.2.1.2.2
    unfold f_X4_withoutHope_b4
    refine pq_if (fun c => pq_s ⟨rfl, fun x hx => ?_⟩) (fun c => pq_if (fun d => ?_) (fun d => pq_s ⟨rfl, fun x hx => ?_⟩))
    · have c := i_le c
      rw [h1' x hx]
      unfold NvP
      constructor
      · rintro ⟨⟨w1, w2⟩, h, w3, w4, w5⟩
        refine ⟨w1, w2, ?_⟩
        rcases (at_h P w1).mp w5 with z | z
        · exact Or.inl (by rw [← z]; exact w4)
        · exact Or.inr (by rw [← z]; exact w4)
      · rintro ⟨w1, w2, w3⟩
        have en := ends_h P w1
        refine ⟨⟨w1, w2⟩, ?_⟩
        rcases w3 with z | z
        · exact ⟨h0 M x, by omega, z, (at_h P w1).mpr (Or.inl rfl)⟩
        · exact ⟨h1 M x, by omega, z, (at_h P w1).mpr (Or.inr rfl)⟩
    · have c := i_nle c
      have hh : i < 8 := by omega
      have a2 : (v2 + 1).toInt = ((i + 1 : Nat) : Int) := by rw [i_addx _ _ (by omega)]; omega
      refine pq_b (gone_c P h2 (by omega)) (fun r3 s4 k => ?_)
      obtain ⟨es, k⟩ := k
      subst es
      refine pq_if (fun f => ih (i + 1) v1 (v2 + 1) a2 (by omega) (fun x hx => ?_)) (fun f => pq_c (fun _ => pq_n (fun x4 e4 => ih (i + 1) x4 (v2 + 1) a2 (by omega) (fun x hx => ?_))))
      · rw [h1' x hx]
        constructor
        · rintro ⟨w, h, w3, w4⟩
          exact ⟨w, h, by omega, w4⟩
        · rintro ⟨w, h, w3, w4, w5⟩
          refine ⟨w, h, ?_, w4, w5⟩
          by_cases z : h = i
          · subst z
            exact absurd w4 (r1_n k f)
          · omega
      · have q := qa_b P hh x
        rw [cl_h h2] at e4
        rw [e4, bt_or]
        constructor
        · intro w
          rcases Bool.or_eq_true_iff.mp w with w | w
          · obtain ⟨w, h, w3, w4⟩ := (h1' x hx).mp w
            exact ⟨w, h, by omega, w4⟩
          · have w := q.mp w
            exact ⟨⟨w.1, e19.symm.trans d⟩, i, by omega, r1_y k f, w.2⟩
        · rintro ⟨w, h, w3, w4, w5⟩
          refine Bool.or_eq_true_iff.mpr ?_
          by_cases z : h = i
          · subst z
            exact Or.inr (q.mpr ⟨w.1, w5⟩)
          · exact Or.inl ((h1' x hx).mpr ⟨w, h, by omega, w4, w5⟩)
    · rw [h1' x hx]
      have n14 : ¬ M 14 = 0 := fun z => d (e19.trans z)
      exact ⟨fun w => absurd w.1.2 n14, fun w => absurd w.2.1 n14⟩
theorem wh_c {M : Nat → Int32} {s : Sg} (P : PlnR 24 s M) : PQ (f_X4_withoutHope s) (fun r s' => s' = s ∧ ∀ x, x < 32 → (bt r x = true ↔ ((x : Int) < (M 1).toInt ∧ NvP M x))) := by
  unfold f_X4_withoutHope
  refine wh_b4 P BIG 0 0 0 rfl P.2.1.1.1 (fun x _ => ?_)
  rw [bt_0]
  exact ⟨fun z => absurd z (by decide), fun z => by obtain ⟨-, h, w, -⟩ := z; exact absurd w (Nat.not_lt_zero _)⟩
theorem hopeless_q {s t : Sg} (P : PlnR 24 s (t.1 1)) : RQ (f_X11_hopeless s) (f_X12_hopeless t) AnQ := by
  unfold f_X11_hopeless f_X12_hopeless
  refine aq_bi (s := s) (Bt := fun x => (x : Int) < (t.1 1 1).toInt ∧ NvP (t.1 1) x) (pq_b (wh_c P) (fun r s2 g => bi_an g.2)) (pq_b (so_p P.2.1.2.1 (soh_3 P)) (fun r t2 g => bi_gv g.2))
/-! ghosts -/
def GhP (M : Nat → Int32) (q : Nat) : Prop := bt (M 9) (h0 M q) = true ∧ bt (M 9) (h1 M q) = true
theorem gh_st {M : Nat → Int32} {i : Nat} {v : Int32} {p : Prop} (h : ∀ x, x < 32 → (bt v x = true ↔ (x < i ∧ GhP M x))) (e : GhP M i ↔ p) {v' : Int32} (h' : ∀ x, x < 32 → (bt v' x = true ↔ (bt v x = true ∨ (x = i ∧ p)))) : ∀ x, x < 32 → (bt v' x = true ↔ (x < i + 1 ∧ GhP M x)) := fun x hx => by
  rw [h' x hx, h x hx]
  constructor
  · rintro (w | ⟨w1, w2⟩)
    · exact ⟨by omega, w.2⟩
    · exact ⟨by omega, by rw [w1]; exact e.mpr w2⟩
  · intro w
    by_cases z : x = i
    · exact Or.inr ⟨z, e.mp (by rw [← z]; exact w.2)⟩
    · exact Or.inl ⟨by omega, w.2⟩
theorem gh_c {M : Nat → Int32} {s : Sg} (P : PlnR 24 s M) (m : Nat) : ∀ (i : Nat) (v1 v2 : Int32), v2.toInt = (i : Int) → (i : Int) ≤ (M 1).toInt → (∀ x, x < 32 → (bt v1 x = true ↔ (x < i ∧ GhP M x))) → PQ (f_X11_ghosts_b4 m v1 v2 s) (BiC s (fun x => (x : Int) < (M 1).toInt ∧ GhP M x)) := by
  induction m with
  | zero => intro i v1 v2 _ _ _ r s' z; cases z
  | succ m ih =>
    intro i v1 v2 h2 hi hv
    have e1 : (1 : Int32).toInt = 1 := rfl
    have b1 := P.2.1.2.1
    have e14 : s.1 25 14 = M 1 := P.1.2.1
    unfold f_X11_ghosts_b4
    rw [e14]
    refine pq_if (fun c => bi_an (fun x hx => ?_)) (fun c => pq_c (fun _ => ?_))
    · have c := i_le c
      rw [hv x hx]
      exact ⟨fun w => ⟨by omega, w.2⟩, fun w => ⟨by omega, w.2⟩⟩
    · have c := i_nle c
      have hQ : (i : Int) < (M 1).toInt := by omega
      have en := ends_h P hQ
      have w := (pln_q P hQ).2.1
      have a2 : (v2 + 1).toInt = ((i + 1 : Nat) : Int) := by rw [i_addx _ _ (by omega)]; omega
      rw [cl_h h2, w.1]
      refine pq_b (gone_c P en.1.1 (by omega)) (fun r4 s5 k => ?_)
      obtain ⟨es, k⟩ := k
      subst es
      refine pq_if (fun d => ih (i + 1) v1 (v2 + 1) a2 (by omega) (gh_st hv (p := False) ⟨fun z => r1_n k d z.1, fun z => z.elim⟩ (fun x _ => ⟨Or.inl, fun z => z.elim id (fun y => y.2.elim)⟩))) (fun d => ?_)
      rw [w.2.1]
      refine pq_b (gone_c P en.1.2 (by omega)) (fun r6 s7 l => ?_)
      obtain ⟨es, l⟩ := l
      subst es
      refine pq_if (fun f => ih (i + 1) v1 (v2 + 1) a2 (by omega) (gh_st hv (p := False) ⟨fun z => r1_n l f z.2, fun z => z.elim⟩ (fun x _ => ⟨Or.inl, fun z => z.elim id (fun y => y.2.elim)⟩))) (fun f => pq_n (fun x8 e8 => ih (i + 1) x8 (v2 + 1) a2 (by omega) (gh_st hv (p := True) ⟨fun _ => trivial, fun _ => ⟨r1_y k d, r1_y l f⟩⟩ (fun x _ => ?_))))
      rw [e8, or_bit h2 (by omega)]
      exact ⟨fun z => z.elim Or.inl (fun y => Or.inr ⟨y, trivial⟩), fun z => z.elim Or.inl (fun y => Or.inr y.1)⟩
theorem gh_m {s t : Sg} (P : PlnR 24 s (t.1 1)) (m : Nat) : ∀ (i : Nat) (v1 v2 : Int32), v2.toInt = (i : Int) → (i : Int) ≤ (t.1 1 1).toInt → (∀ x, x < 32 → (bt v1 x = true ↔ (x < i ∧ GhP (t.1 1) x))) → PQ (f_X12_ghosts_b4 m v1 v2 t) (BiM (fun x => (x : Int) < (t.1 1 1).toInt ∧ GhP (t.1 1) x)) := by
  induction m with
  | zero => intro i v1 v2 _ _ _ r s' z; cases z
  | succ m ih =>
    intro i v1 v2 h2 hi hv
    have e1 : (1 : Int32).toInt = 1 := rfl
    have b1 := P.2.1.2.1
    unfold f_X12_ghosts_b4
    refine pq_if (fun c => bi_gv (fun x hx => ?_)) (fun c => ?_)
    · have c := i_le c
      rw [hv x hx]
      exact ⟨fun w => ⟨by omega, w.2⟩, fun w => ⟨by omega, w.2⟩⟩
    · have c := i_nle c
      have hQ : (i : Int) < (t.1 1 1).toInt := by omega
      have en := ends_h P hQ
      have xx := qr_x h2 en.2.2.2.2
      have a2 : (v2 + 1).toInt = ((i + 1 : Nat) : Int) := by rw [i_addx _ _ (by omega)]; omega
      refine pq_b (qh_p v2 0 t) (fun r3 t4 k => pq_c (fun _ => ?_))
      obtain ⟨et, k⟩ := k
      subst et
      rw [k, xx.1]
      refine pq_b (gone_m en.1.1 (by omega) t4) (fun r4 s5 k => ?_)
      obtain ⟨es, k⟩ := k
      subst es
      refine pq_if (fun d => ih (i + 1) _ (v2 + 1) a2 (by omega) (gh_st hv (p := False) ⟨fun z => r1_n k d z.1, fun z => z.elim⟩ (fun x _ => ?_))) (fun d => pq_b (qh_p v2 1 s5) (fun r3 t4 l => pq_c (fun _ => ?_)))
      · rw [or_0]
        exact ⟨Or.inl, fun z => z.elim id (fun y => y.2.elim)⟩
      obtain ⟨et, l⟩ := l
      subst et
      rw [l, xx.2.1]
      refine pq_b (gone_m en.1.2 (by omega) t4) (fun r6 s7 l => ?_)
      obtain ⟨es, l⟩ := l
      subst es
      refine pq_if (fun f => ih (i + 1) _ (v2 + 1) a2 (by omega) (gh_st hv (p := False) ⟨fun z => r1_n l f z.2, fun z => z.elim⟩ (fun x _ => ?_))) (fun f => pq_n (fun x8 e8 => ih (i + 1) x8 (v2 + 1) a2 (by omega) (gh_st hv (p := True) ⟨fun _ => trivial, fun _ => ⟨r1_y k d, r1_y l f⟩⟩ (fun x _ => ?_))))
      · rw [or_0]
        exact ⟨Or.inl, fun z => z.elim id (fun y => y.2.elim)⟩
      · rw [e8, or_bit h2 (by omega)]
        exact ⟨fun z => z.elim Or.inl (fun y => Or.inr ⟨y, trivial⟩), fun z => z.elim Or.inl (fun y => Or.inr y.1)⟩
theorem ghosts_q {s t : Sg} (P : PlnR 24 s (t.1 1)) : RQ (f_X11_ghosts s) (f_X12_ghosts t) AnQ := by
  unfold f_X11_ghosts f_X12_ghosts
  have z : ∀ x, x < 32 → (bt (0 : Int32) x = true ↔ (x < 0 ∧ GhP (t.1 1) x)) := fun x _ => by
    rw [bt_0]
    exact ⟨fun z => absurd z (by decide), fun z => absurd z.1 (Nat.not_lt_zero _)⟩
  exact aq_bi (gh_c P BIG 0 0 0 rfl P.2.1.2.1.1 z) (gh_m P BIG 0 0 0 rfl P.2.1.2.1.1 z)
/-! reaches, chain: sets that grow till nothing is added -/
def itf (F : Int32 → Int32) : Nat → Int32 → Int32
  | 0, x => x
  | k + 1, x => itf F k (F x)
def Inf (F : Int32 → Int32) : Prop := ∀ x i, bt x i = true → bt (F x) i = true
def cnp (pos : Nat → Nat) : Nat → Int32 → Nat
  | 0, _ => 0
  | n + 1, x => cnp pos n x + (if bt x (pos n) = true then 0 else 1)
theorem cnp_le (pos : Nat → Nat) (x : Int32) : ∀ n, cnp pos n x ≤ n
  | 0 => Nat.le_refl 0
  | n + 1 => by
    have := cnp_le pos x n
    unfold cnp
    by_cases c : bt x (pos n) = true
    · rw [if_pos c]; omega
    · rw [if_neg c]; omega
theorem cnp_m (pos : Nat → Nat) {x y : Int32} (h : ∀ i, bt x i = true → bt y i = true) : ∀ n, cnp pos n y ≤ cnp pos n x
  | 0 => Nat.le_refl 0
  | n + 1 => by
    have := cnp_m pos h n
    unfold cnp
    by_cases c : bt x (pos n) = true
    · rw [if_pos c, if_pos (h _ c)]; omega
    · rw [if_neg c]
      by_cases d : bt y (pos n) = true
      · rw [if_pos d]; omega
      · rw [if_neg d]; omega
theorem cnp_lt (pos : Nat → Nat) {x y : Int32} (h : ∀ i, bt x i = true → bt y i = true) {c : Nat} (h1 : ¬ bt x (pos c) = true) (h2 : bt y (pos c) = true) : ∀ n, c < n → cnp pos n y < cnp pos n x
  | 0, z => absurd z (Nat.not_lt_zero _)
  | n + 1, z => by
    have m := cnp_m pos h n
    unfold cnp
    by_cases e : c = n
    · subst e
      rw [if_pos h2, if_neg h1]
      omega
    · have := cnp_lt pos h h1 h2 n (by omega)
      by_cases d : bt x (pos n) = true
      · rw [if_pos d, if_pos (h _ d)]; omega
      · rw [if_neg d]
        by_cases f : bt y (pos n) = true
        · rw [if_pos f]; omega
        · rw [if_neg f]; omega
theorem cnp_0 (pos : Nat → Nat) {x : Int32} : ∀ n, cnp pos n x = 0 → ∀ c, c < n → bt x (pos c) = true
  | 0, _, c, z => absurd z (Nat.not_lt_zero _)
  | n + 1, h, c, z => by
    unfold cnp at h
    by_cases d : bt x (pos n) = true
    · by_cases e : c = n
      · rw [e]; exact d
      · exact cnp_0 pos n (by omega) c (by omega)
    · rw [if_neg d] at h
      omega
theorem bt_le {x y : Int32} (h : ∀ i, bt x i = true → bt y i = true) (g : ∀ i, bt y i = true → bt x i = true) : x = y := bt_ext (fun i _ => by
  cases a : bt x i <;> cases b : bt y i
  · rfl
  · exact absurd (g i b) (by rw [a]; decide)
  · exact absurd (h i a) (by rw [b]; decide)
  · rfl)
theorem itf_e {F : Int32 → Int32} {x : Int32} (h : F x = x) : ∀ k, itf F k x = x
  | 0 => rfl
  | k + 1 => by
    unfold itf
    rw [h]
    exact itf_e h k
/-- behind as many rounds as there are places to be filled nothing is added -/
theorem itf_fix {F : Int32 → Int32} (hI : Inf F) (pos : Nat → Nat) (n : Nat) (hL : ∀ x i, bt (F x) i = true → bt x i = true ∨ ∃ c, c < n ∧ i = pos c) : ∀ k x, cnp pos n x ≤ k → F (itf F k x) = itf F k x
  | k, x, hk => by
    by_cases e : F x = x
    · rw [itf_e e k]; exact e
    · have d : ∃ c, c < n ∧ ¬ bt x (pos c) = true ∧ bt (F x) (pos c) = true := Classical.byContradiction (fun z => e (bt_le (fun i hi => by
        rcases hL x i hi with w | ⟨c, w1, w2⟩
        · exact w
        · refine Classical.byContradiction (fun y => z ⟨c, w1, ?_, ?_⟩)
          · rw [← w2]; exact y
          · rw [← w2]; exact hi) (hI x)))
      obtain ⟨c, c1, c2, c3⟩ := d
      have l := cnp_lt pos (hI x) c2 c3 n c1
      cases k with
      | zero => omega
      | succ k =>
        unfold itf
        exact itf_fix hI pos n hL k (F x) (by omega)
theorem itf_s {F : Int32 → Int32} : ∀ k x, itf F (k + 1) x = F (itf F k x)
  | 0, _ => rfl
  | k + 1, x => by
    show itf F (k + 1) (F x) = F (itf F k (F x))
    exact itf_s k (F x)
theorem itf_add {F : Int32 → Int32} {k : Nat} {x : Int32} (h : F (itf F k x) = itf F k x) : ∀ j, itf F (k + j) x = itf F k x
  | 0 => rfl
  | j + 1 => by
    rw [← Nat.add_assoc, itf_s, itf_add h j]
    exact h
theorem itf_inf {F : Int32 → Int32} (hI : Inf F) : ∀ k x i, bt x i = true → bt (itf F k x) i = true
  | 0, _, _, h => h
  | k + 1, x, i, h => itf_inf hI k (F x) i (hI x i h)
theorem itf_min {F : Int32 → Int32} {z : Int32} (h : ∀ x, (∀ i, bt x i = true → bt z i = true) → ∀ i, bt (F x) i = true → bt z i = true) : ∀ k x, (∀ i, bt x i = true → bt z i = true) → ∀ i, bt (itf F k x) i = true → bt z i = true
  | 0, _, g => g
  | k + 1, x, g => itf_min h k (F x) (h x g)
/-! reaches -/
def rst (M : Nat → Int32) : Nat → Int32 → Int32
  | 0, x => x
  | n + 1, x => if bt (rst M n x) (M (80 + 3 * n)).toInt.toNat = true then rst M n x ||| bitI (M (81 + 3 * n)).toInt.toNat else rst M n x
theorem rst_s (M : Nat → Int32) (n : Nat) (x : Int32) : rst M (n + 1) x = if bt (rst M n x) (M (80 + 3 * n)).toInt.toNat = true then rst M n x ||| bitI (M (81 + 3 * n)).toInt.toNat else rst M n x := rfl
theorem rst_i (M : Nat → Int32) : ∀ n, Inf (rst M n)
  | 0, _, _, h => h
  | n + 1, x, i, h => by
    have g := rst_i M n x i h
    rw [rst_s]
    by_cases c : bt (rst M n x) (M (80 + 3 * n)).toInt.toNat = true
    · rw [if_pos c, bt_or, g]
      rfl
    · rw [if_neg c]; exact g
theorem rst_l (M : Nat → Int32) (hb : ∀ c, (M (81 + 3 * c)).toInt.toNat < 32 ∨ True) : ∀ n x i, (∀ c, c < n → (M (81 + 3 * c)).toInt.toNat < 32) → bt (rst M n x) i = true → bt x i = true ∨ ∃ c, c < n ∧ i = (M (81 + 3 * c)).toInt.toNat
  | 0, _, _, _, h => Or.inl h
  | n + 1, x, i, hc, h => by
    have ih := rst_l M hb n x i (fun c z => hc c (by omega))
    rw [rst_s] at h
    have up : bt (rst M n x) i = true → bt x i = true ∨ ∃ c, c < n + 1 ∧ i = (M (81 + 3 * c)).toInt.toNat := fun w => by
      rcases ih w with z | ⟨c, z1, z2⟩
      · exact Or.inl z
      · exact Or.inr ⟨c, by omega, z2⟩
    by_cases c : bt (rst M n x) (M (80 + 3 * n)).toInt.toNat = true
    · rw [if_pos c, bt_or, bt_bit (hc n (by omega))] at h
      rcases Bool.or_eq_true_iff.mp h with w | w
      · exact up w
      · exact Or.inr ⟨n, by omega, of_decide_eq_true w⟩
    · rw [if_neg c] at h
      exact up h
theorem hsf_p {a b : Int32} {q : Nat} (hb : b.toInt = (q : Int)) (hq : q < 32) (s : Sg) : PQ (f_X11_has a b s) (fun r s' => s' = s ∧ Fl (bt a q = true) r) := by
  unfold f_X11_has
  exact pq_f0 (sh1_0 a b hb hq)
theorem cat_bb {M : Nat → Int32} {s : Sg} (P : PlnR 24 s M) {c : Nat} (hc : (c : Int) < (M 2).toInt) : (s.1 35 c = M (80 + 3 * c) ∧ s.1 36 c = M (81 + 3 * c) ∧ s.1 37 c = M (82 + 3 * c)) ∧ ((M (80 + 3 * c)).toInt = ((M (80 + 3 * c)).toInt.toNat : Int) ∧ (M (81 + 3 * c)).toInt = ((M (81 + 3 * c)).toInt.toNat : Int)) ∧ (M (80 + 3 * c)).toInt.toNat < 8 ∧ (M (81 + 3 * c)).toInt.toNat < 8 ∧ c < 4 := by
  have b := P.2.1
  have pc := P.2.2.2.2.2.1 c hc
  have p1 : s.1 35 c = M (80 + 3 * c) := pc.1.1
  have p2 : s.1 36 c = M (81 + 3 * c) := pc.1.2.1
  have q1 : 0 ≤ (s.1 35 c).toInt ∧ (s.1 35 c).toInt < (M 0).toInt := pc.2.1
  have q2 : 0 ≤ (s.1 36 c).toInt ∧ (s.1 36 c).toInt < (M 0).toInt := pc.2.2.1
  have b0 : (M 0).toInt ≤ 8 := b.1.2
  have b2 : (M 2).toInt ≤ 4 := b.2.2.1.2
  rw [p1] at q1
  rw [p2] at q2
  exact ⟨⟨p1, p2, pc.1.2.2⟩, by omega, by omega, by omega, by omega⟩
theorem rch_15 {M : Nat → Int32} {s : Sg} (P : PlnR 24 s M) {k : Int32 → Int32 → Sg → Option (Int32 × Sg)} {Q : Int32 → Sg → Prop} (v3 x0 : Int32) (hk : PQ (k (rst M (M 2).toInt.toNat x0) (v3 + 1) s) Q) (m : Nat) : ∀ (i : Nat) (v2 v4 : Int32), v4.toInt = (i : Int) → (i : Int) ≤ (M 2).toInt → v2 = rst M i x0 → PQ (f_X4_reachedFrom_b15 k m v2 v3 v4 s) Q := by
  induction m with
  | zero => intro i v2 v4 _ _ _ r s' z; cases z
  | succ m ih =>
    intro i v2 v4 h4 hi h2
    have e1 : (1 : Int32).toInt = 1 := rfl
    have e15 : s.1 25 15 = M 2 := P.1.2.2.1
    have b2 := P.2.1.2.2.1
    unfold f_X4_reachedFrom_b15
    rw [e15]
    refine pq_if (fun c => ?_) (fun c => pq_c (fun _ => ?_))
    · have c := i_le c
      have z : (M 2).toInt.toNat = i := by omega
      rw [z, ← h2] at hk
      exact hk
    · have c := i_nle c
      have cb := cat_bb P (c := i) (by omega)
      have a4 : (v4 + 1).toInt = ((i + 1 : Nat) : Int) := by rw [i_addx _ _ (by omega)]; omega
      rw [cl_h h4, cb.1.1]
      refine pq_b (hsf_p cb.2.1.1 (by omega) s) (fun r3 s4 g => ?_)
      obtain ⟨es, g⟩ := g
      subst es
      rw [h2] at g
      refine pq_if (fun d => ih (i + 1) v2 (v4 + 1) a4 (by omega) ?_) (fun d => pq_n (fun x5 e5 => ih (i + 1) x5 (v4 + 1) a4 (by omega) ?_))
      · rw [rst_s, if_neg (r1_n g d)]
        exact h2
      · rw [rst_s, if_pos (r1_y g d), e5, cb.1.2.1, bitI_v cb.2.1.2 (by omega), h2]
theorem rch_6 {M : Nat → Int32} {s : Sg} (P : PlnR 24 s M) (x0 : Int32) (m : Nat) : ∀ (j : Nat) (v2 v3 : Int32), v3.toInt = (j : Int) → j ≤ 8 → itf (rst M (M 2).toInt.toNat) (8 - j) v2 = itf (rst M (M 2).toInt.toNat) 8 x0 → PQ (f_X4_reachedFrom_b6 m v2 v3 s) (fun r s' => s' = s ∧ r = itf (rst M (M 2).toInt.toNat) 8 x0) := by
  induction m with
  | zero => intro j v2 v3 _ _ _ r s' z; cases z
  | succ m ih =>
    intro j v2 v3 h3 hj h2
    have e1 : (1 : Int32).toInt = 1 := rfl
    have e8 : (8 : Int32).toInt = 8 := rfl
    unfold f_X4_reachedFrom_b6
    refine pq_if (fun c => pq_s ⟨rfl, ?_⟩) (fun c => rch_15 P v3 v2 ?_ BIG 0 v2 0 rfl P.2.1.2.2.1.1 rfl)
    · have c := i_le c
      have z : j = 8 := by omega
      rw [z] at h2
      exact h2
    · have c := i_nle c
      refine ih (j + 1) _ (v3 + 1) (by rw [i_addx _ _ (by omega)]; omega) (by omega) ?_
      rw [← h2, show 8 - j = (8 - (j + 1)) + 1 by omega]
      rfl
theorem rch_32 {s t : Sg} (P : PlnR 24 s (t.1 1)) {k : Int32 → Int32 → Sg → Option (Int32 × Sg)} {Q : Int32 → Sg → Prop} (v4 x0 : Int32) (hk : PQ (k (rst (t.1 1) (t.1 1 2).toInt.toNat x0) (v4 + 1) t) Q) (m : Nat) : ∀ (i : Nat) (v3 v5 : Int32), v5.toInt = (i : Int) → (i : Int) ≤ (t.1 1 2).toInt → v3 = rst (t.1 1) i x0 → PQ (f_X12_reaches_b32 k m v3 v4 v5 t) Q := by
  induction m with
  | zero => intro i v3 v5 _ _ _ r s' z; cases z
  | succ m ih =>
    intro i v3 v5 h5 hi h3
    have e1 : (1 : Int32).toInt = 1 := rfl
    have b2 := P.2.1.2.2.1
    unfold f_X12_reaches_b32
    refine pq_if (fun c => ?_) (fun c => pq_c (fun _ => ?_))
    · have c := i_le c
      have z : (t.1 1 2).toInt.toNat = i := by omega
      rw [z, ← h3] at hk
      exact hk
    · have c := i_nle c
      have cb := cat_bb P (c := i) (by omega)
      have x := cx_x h5 cb.2.2.2.2
      have a5 : (v5 + 1).toInt = ((i + 1 : Nat) : Int) := by rw [i_addx _ _ (by omega)]; omega
      rw [x.1]
      have sh := sh1_1 v3 (t.1 1 (80 + 3 * i)) cb.2.1.1 (by omega)
      rw [h3] at sh
      refine pq_if (fun d => pq_c (fun _ => pq_n (fun x8 e8 => ih (i + 1) x8 (v5 + 1) a5 (by omega) ?_))) (fun d => ih (i + 1) v3 (v5 + 1) a5 (by omega) ?_)
      · rw [h3] at d
        rw [x.2.1] at e8
        rw [rst_s, if_pos (sh.mp d), e8, bitI_v cb.2.1.2 (by omega), h3]
      · rw [h3] at d
        rw [rst_s, if_neg (fun z => d (sh.mpr z))]
        exact h3
theorem rch_23 {s t : Sg} (P : PlnR 24 s (t.1 1)) (x0 : Int32) (m : Nat) : ∀ (j : Nat) (v3 v4 : Int32), v4.toInt = (j : Int) → j ≤ 4 → itf (rst (t.1 1) (t.1 1 2).toInt.toNat) (4 - j) v3 = itf (rst (t.1 1) (t.1 1 2).toInt.toNat) 4 x0 → PQ (f_X12_reaches_b23 m v3 v4 t) (fun r t' => t'.1 0 2 = 0 ∧ r = itf (rst (t.1 1) (t.1 1 2).toInt.toNat) 4 x0) := by
  induction m with
  | zero => intro j v3 v4 _ _ _ r s' z; cases z
  | succ m ih =>
    intro j v3 v4 h4 hj h3
    have e1 : (1 : Int32).toInt = 1 := rfl
    have e4 : (4 : Int32).toInt = 4 := rfl
    unfold f_X12_reaches_b23
    refine pq_if (fun c => ?_) (fun c => rch_32 P v4 v3 ?_ BIG 0 v3 0 rfl P.2.1.2.2.1.1 rfl)
    · have c := i_le c
      have z : j = 4 := by omega
      rw [z] at h3
      have q : PQ (some (v3, pI t 0 2 0)) (fun r t' => t'.1 0 2 = 0 ∧ r = itf (rst (t.1 1) (t.1 1 2).toInt.toNat) 4 x0) := pq_s ⟨q_eq, h3⟩
      exact q
    · have c := i_nle c
      refine ih (j + 1) _ (v4 + 1) (by rw [i_addx _ _ (by omega)]; omega) (by omega) ?_
      rw [← h3, show 4 - j = (4 - (j + 1)) + 1 by omega]
      rfl
theorem rch_48 {M : Nat → Int32} {s : Sg} (P : PlnR 24 s M) (x : Int32) : itf (rst M (M 2).toInt.toNat) 8 x = itf (rst M (M 2).toInt.toNat) 4 x := by
  have b2 := P.2.1.2.2.1
  have h := itf_fix (rst_i M (M 2).toInt.toNat) (fun c => (M (81 + 3 * c)).toInt.toNat) (M 2).toInt.toNat (fun x i w => rst_l M (fun _ => Or.inr trivial) _ x i (fun c hc => by have := (cat_bb P (c := c) (by omega)).2.2.2.1; omega) w) 4 x (by have := cnp_le (fun c => (M (81 + 3 * c)).toInt.toNat) x (M 2).toInt.toNat; omega)
  exact itf_add h 4
theorem reaches_q {s t : Sg} (P : PlnR 24 s (t.1 1)) (a : Int32) : RQ (f_X11_reaches a s) (f_X12_reaches a t) AnQ := by
  unfold f_X11_reaches f_X12_reaches
  refine rq_wn (whyNo_c P a 1 (Or.inl ⟨rfl, trivial⟩)) (wrong_m a P.2.1.1.2) ?_ (fun _ _ => ?_) (fun hh hg => ?_)
  · exact aq_rf s t 1
  · exact aq_rf s t 7
  · have n := hs_n P.2.1.1.2 hh
    rw [if_pos rfl, if_pos (by decide)]
    unfold f_X4_reachedFrom
    rw [bitI_v n.1 (by omega)]
    refine rq_bC (P := fun r s' => s' = s ∧ r = itf (rst (t.1 1) (t.1 1 2).toInt.toNat) 8 (bitI a.toInt.toNat)) (pq_n (fun x1 e => ?_)) (fun r3 s4 g => rq_nM (fun x3 e3 => ?_))
    · rw [e]
      exact rch_6 P _ BIG 0 _ 0 rfl (by decide) rfl
    · obtain ⟨es, g⟩ := g
      subst es
      rw [e3]
      have q : RQ (some (r3, pI s4 0 15 0)) (f_X12_reaches_b23 BIG (bitI a.toInt.toNat) 0 t) AnQ := rq_pp (P := fun r s' => r = r3 ∧ s'.1 0 15 = 0) (pq_s ⟨rfl, q_eq⟩) (rch_23 P (bitI a.toInt.toNat) BIG 0 _ 0 rfl (by decide) rfl) (fun r s r' t' x y => ⟨by rw [x.1, g, y.2]; exact rch_48 P _, x.2.trans y.1.symm⟩)
      exact q
/-! chain -/
def cst (qa : Nat → Int32) : Nat → Int32 → Int32
  | 0, x => x
  | n + 1, x => if (cst qa n x &&& qa n) = 0 then cst qa n x else cst qa n x ||| qa n
theorem cst_s (qa : Nat → Int32) (n : Nat) (x : Int32) : cst qa (n + 1) x = if (cst qa n x &&& qa n) = 0 then cst qa n x else cst qa n x ||| qa n := rfl
theorem cst_i (qa : Nat → Int32) : ∀ n, Inf (cst qa n)
  | 0, _, _, h => h
  | n + 1, x, i, h => by
    have g := cst_i qa n x i h
    rw [cst_s]
    by_cases c : (cst qa n x &&& qa n) = 0
    · rw [if_pos c]; exact g
    · rw [if_neg c, bt_or, g]
      rfl
theorem cst_l (qa : Nat → Int32) (b : Nat) : ∀ n x i, (∀ h, h < n → ∀ j, bt (qa h) j = true → j < b) → bt (cst qa n x) i = true → bt x i = true ∨ ∃ c, c < b ∧ i = c
  | 0, _, _, _, h => Or.inl h
  | n + 1, x, i, hc, h => by
    have ih := cst_l qa b n x i (fun c z => hc c (by omega))
    rw [cst_s] at h
    by_cases c : (cst qa n x &&& qa n) = 0
    · rw [if_pos c] at h
      exact ih h
    · rw [if_neg c, bt_or] at h
      rcases Bool.or_eq_true_iff.mp h with w | w
      · exact ih w
      · exact Or.inr ⟨i, hc n (by omega) i w, rfl⟩
/-- a set that holds all that share a house with it -/
def ClQ (M : Nat → Int32) (z : Int32) : Prop := ∀ a b h : Nat, (a : Int) < (M 1).toInt → (b : Int) < (M 1).toInt → bt z a = true → atB M a h = true → atB M b h = true → bt z b = true
theorem and_0 {x y : Int32} : (x &&& y) = 0 ↔ ∀ i, bt x i = true → ¬ bt y i = true := by
  constructor
  · intro h i hx hy
    have : bt (x &&& y) i = true := by rw [bt_and, hx, hy]; rfl
    rw [h, bt_0] at this
    exact absurd this (by decide)
  · intro h
    refine bt_ext (fun i _ => ?_)
    rw [bt_and, bt_0]
    cases a : bt x i
    · rfl
    · cases b : bt y i
      · rfl
      · exact absurd b (h i a)
theorem cst_min {M : Nat → Int32} {s : Sg} (P : PlnR 24 s M) {z : Int32} (hz : ClQ M z) : ∀ n, n ≤ 8 → ∀ x, (∀ i, bt x i = true → bt z i = true) → ∀ i, bt (cst (s.1 34) n x) i = true → bt z i = true
  | 0, _, _, g => g
  | n + 1, hn, x, g => fun i hi => by
    have ih := cst_min P hz n (by omega) x g
    rw [cst_s] at hi
    by_cases c : (cst (s.1 34) n x &&& s.1 34 n) = 0
    · rw [if_pos c] at hi
      exact ih i hi
    · rw [if_neg c, bt_or] at hi
      rcases Bool.or_eq_true_iff.mp hi with w | w
      · exact ih i w
      · have e : ∃ j, bt (cst (s.1 34) n x) j = true ∧ bt (s.1 34 n) j = true := Classical.byContradiction (fun y => c (and_0.mpr (fun j a b => y ⟨j, a, b⟩)))
        obtain ⟨j, j1, j2⟩ := e
        have qj := (qa_b P (by omega) j).mp j2
        have qi := (qa_b P (by omega) i).mp w
        exact hz j i n qj.1 qi.1 (ih j j1) qj.2 qi.2
theorem cst_fx (qa : Nat → Int32) {x : Int32} : ∀ n, cst qa n x = x → ∀ h, h < n → (x &&& qa h) = 0 ∨ ∀ i, bt (qa h) i = true → bt x i = true
  | 0, _, h, z => absurd z (Nat.not_lt_zero h)
  | n + 1, e, h, z => by
    have en : cst qa n x = x := bt_le (fun i w => by
      have w2 : bt (cst qa (n + 1) x) i = true := by
        rw [cst_s]
        by_cases c : (cst qa n x &&& qa n) = 0
        · rw [if_pos c]; exact w
        · rw [if_neg c, bt_or, w]; rfl
      rw [e] at w2
      exact w2) (cst_i qa n x)
    by_cases y : h = n
    · subst y
      rw [cst_s, en] at e
      by_cases c : (x &&& qa h) = 0
      · exact Or.inl c
      · rw [if_neg c] at e
        refine Or.inr (fun i w => ?_)
        rw [← e, bt_or, w]
        cases bt x i <;> rfl
    · exact cst_fx qa n en h (by omega)
theorem cst_cl {M : Nat → Int32} {s : Sg} (P : PlnR 24 s M) {x : Int32} (h : cst (s.1 34) (M 0).toInt.toNat x = x) : ClQ M x := fun a b y ha hb hx h1' h2' => by
  have b0 := P.2.1.1
  have en := ends_h P ha
  have yl : (y : Int) < (M 0).toInt := by
    rcases (at_h P ha).mp h1' with w | w <;> omega
  have y8 : y < 8 := by omega
  rcases cst_fx (s.1 34) _ h y (by omega) with w | w
  · exact absurd ((qa_b P y8 a).mpr ⟨ha, h1'⟩) (and_0.mp w a hx)
  · exact w b ((qa_b P y8 b).mpr ⟨hb, h2'⟩)
theorem chn_15 {M : Nat → Int32} {s : Sg} (P : PlnR 24 s M) {k : Int32 → Int32 → Sg → Option (Int32 × Sg)} {Q : Int32 → Sg → Prop} (v3 x0 : Int32) (hk : PQ (k (cst (s.1 34) (M 0).toInt.toNat x0) (v3 + 1) s) Q) (m : Nat) : ∀ (i : Nat) (v2 v4 : Int32), v4.toInt = (i : Int) → (i : Int) ≤ (M 0).toInt → v2 = cst (s.1 34) i x0 → PQ (f_X4_joinedTo_b15 k m v2 v3 v4 s) Q := by
  induction m with
  | zero => intro i v2 v4 _ _ _ r s' z; cases z
  | succ m ih =>
    intro i v2 v4 h4 hi h2
    have e1 : (1 : Int32).toInt = 1 := rfl
    have b0 := P.2.1.1
    have e13 : (s.1 25 13).toInt = (M 0).toInt + 0 := P.1.1
    unfold f_X4_joinedTo_b15
    refine pq_if (fun c => ?_) (fun c => pq_c (fun _ => ?_))
    · have c := i_le c
      have z : (M 0).toInt.toNat = i := by omega
      rw [z, ← h2] at hk
      exact hk
    · have c := i_nle c
      have a4 : (v4 + 1).toInt = ((i + 1 : Nat) : Int) := by rw [i_addx _ _ (by omega)]; omega
      rw [cl_h h4]
      refine pq_if (fun d => ih (i + 1) v2 (v4 + 1) a4 (by omega) ?_) (fun d => pq_n (fun x5 e5 => ih (i + 1) x5 (v4 + 1) a4 (by omega) ?_))
      · rw [h2] at d
        rw [cst_s, if_pos d]
        exact h2
      · rw [h2] at d
        rw [cst_s, if_neg d, e5, h2]
theorem chn_6 {M : Nat → Int32} {s : Sg} (P : PlnR 24 s M) (x0 : Int32) (m : Nat) : ∀ (j : Nat) (v2 v3 : Int32), v3.toInt = (j : Int) → j ≤ 8 → itf (cst (s.1 34) (M 0).toInt.toNat) (8 - j) v2 = itf (cst (s.1 34) (M 0).toInt.toNat) 8 x0 → PQ (f_X4_joinedTo_b6 m v2 v3 s) (fun r s' => s' = s ∧ r = itf (cst (s.1 34) (M 0).toInt.toNat) 8 x0) := by
  induction m with
  | zero => intro j v2 v3 _ _ _ r s' z; cases z
  | succ m ih =>
    intro j v2 v3 h3 hj h2
    have e1 : (1 : Int32).toInt = 1 := rfl
    have e8 : (8 : Int32).toInt = 8 := rfl
    unfold f_X4_joinedTo_b6
    refine pq_if (fun c => pq_s ⟨rfl, ?_⟩) (fun c => chn_15 P v3 v2 ?_ BIG 0 v2 0 rfl P.2.1.1.1 rfl)
    · have c := i_le c
      have z : j = 8 := by omega
      rw [z] at h2
      exact h2
    · have c := i_nle c
      refine ih (j + 1) _ (v3 + 1) (by rw [i_addx _ _ (by omega)]; omega) (by omega) ?_
      rw [← h2, show 8 - j = (8 - (j + 1)) + 1 by omega]
      rfl
/-- which share a house -/
def shQ (M : Nat → Int32) (a b : Nat) : Bool := atB M b (h0 M a) || atB M b (h1 M a)
def jst (M : Nat → Int32) (a : Nat) : Nat → Int32 → Int32
  | 0, x => x
  | n + 1, x => if shQ M a n = true then jst M a n x ||| bitI n else jst M a n x
theorem jst_s (M : Nat → Int32) (a n : Nat) (x : Int32) : jst M a (n + 1) x = if shQ M a n = true then jst M a n x ||| bitI n else jst M a n x := rfl
theorem jst_b (M : Nat → Int32) (a : Nat) : ∀ n, n ≤ 32 → ∀ x i, bt (jst M a n x) i = true ↔ (bt x i = true ∨ (i < n ∧ shQ M a i = true))
  | 0, _, _, _ => ⟨Or.inl, fun w => w.elim id (fun y => absurd y.1 (Nat.not_lt_zero _))⟩
  | n + 1, hn, x, i => by
    have ih := jst_b M a n (by omega) x i
    rw [jst_s]
    by_cases c : shQ M a n = true
    · rw [if_pos c, bt_or, bt_bit (by omega)]
      constructor
      · intro w
        rcases Bool.or_eq_true_iff.mp w with w | w
        · rcases ih.mp w with z | z
          · exact Or.inl z
          · exact Or.inr ⟨by omega, z.2⟩
        · have w := of_decide_eq_true w
          exact Or.inr ⟨by omega, by rw [w]; exact c⟩
      · rintro (w | w)
        · exact Bool.or_eq_true_iff.mpr (Or.inl (ih.mpr (Or.inl w)))
        · by_cases z : i = n
          · exact Bool.or_eq_true_iff.mpr (Or.inr (decide_eq_true z))
          · exact Bool.or_eq_true_iff.mpr (Or.inl (ih.mpr (Or.inr ⟨by omega, w.2⟩)))
    · rw [if_neg c, ih]
      constructor
      · rintro (w | w)
        · exact Or.inl w
        · exact Or.inr ⟨by omega, w.2⟩
      · rintro (w | w)
        · exact Or.inl w
        · by_cases z : i = n
          · rw [z] at w
            exact absurd w.2 c
          · exact Or.inr ⟨by omega, w.2⟩
def ost (M : Nat → Int32) (q : Nat) : Nat → Int32 → Int32
  | 0, x => x
  | n + 1, x => if bt (ost M q n x) n = true then jst M n q (ost M q n x) else ost M q n x
theorem ost_s (M : Nat → Int32) (q n : Nat) (x : Int32) : ost M q (n + 1) x = if bt (ost M q n x) n = true then jst M n q (ost M q n x) else ost M q n x := rfl
theorem ost_up (M : Nat → Int32) {q : Nat} (hq : q ≤ 32) (n : Nat) (x : Int32) (i : Nat) (h : bt (ost M q n x) i = true) : bt (ost M q (n + 1) x) i = true := by
  rw [ost_s]
  by_cases c : bt (ost M q n x) n = true
  · rw [if_pos c, jst_b M n q hq]
    exact Or.inl h
  · rw [if_neg c]; exact h
theorem ost_i (M : Nat → Int32) {q : Nat} (hq : q ≤ 32) : ∀ n, Inf (ost M q n)
  | 0, _, _, h => h
  | n + 1, x, i, h => ost_up M hq n x i (ost_i M hq n x i h)
theorem ost_l (M : Nat → Int32) {q : Nat} (hq : q ≤ 32) : ∀ n x i, bt (ost M q n x) i = true → bt x i = true ∨ ∃ c, c < q ∧ i = c
  | 0, _, _, h => Or.inl h
  | n + 1, x, i, h => by
    have ih := ost_l M hq n x i
    rw [ost_s] at h
    by_cases c : bt (ost M q n x) n = true
    · rw [if_pos c, jst_b M n q hq] at h
      rcases h with w | w
      · exact ih w
      · exact Or.inr ⟨i, w.1, rfl⟩
    · rw [if_neg c] at h
      exact ih h
theorem sh_cl {M : Nat → Int32} {s : Sg} (P : PlnR 24 s M) {a b : Nat} (ha : (a : Int) < (M 1).toInt) : shQ M a b = true ↔ ∃ h, atB M a h = true ∧ atB M b h = true := by
  unfold shQ
  constructor
  · intro w
    rcases Bool.or_eq_true_iff.mp w with w | w
    · exact ⟨_, (at_h P ha).mpr (Or.inl rfl), w⟩
    · exact ⟨_, (at_h P ha).mpr (Or.inr rfl), w⟩
  · rintro ⟨h, w1, w2⟩
    rcases (at_h P ha).mp w1 with z | z
    · rw [z] at w2
      exact Bool.or_eq_true_iff.mpr (Or.inl w2)
    · rw [z] at w2
      exact Bool.or_eq_true_iff.mpr (Or.inr w2)
theorem ost_min {M : Nat → Int32} {s : Sg} (P : PlnR 24 s M) {z : Int32} (hz : ClQ M z) : ∀ n : Nat, (n : Int) ≤ (M 1).toInt → ∀ x, (∀ i, bt x i = true → bt z i = true) → ∀ i, bt (ost M (M 1).toInt.toNat n x) i = true → bt z i = true
  | 0, _, _, g => g
  | n + 1, hn, x, g => fun i hi => by
    have b1 := P.2.1.2.1
    have ih := ost_min P hz n (by omega) x g
    rw [ost_s] at hi
    by_cases c : bt (ost M (M 1).toInt.toNat n x) n = true
    · rw [if_pos c, jst_b M n _ (by omega)] at hi
      rcases hi with w | ⟨w1, w2⟩
      · exact ih i w
      · obtain ⟨h, u1, u2⟩ := (sh_cl P (by omega)).mp w2
        exact hz n i h (by omega) (by omega) (ih n c) u1 u2
    · rw [if_neg c] at hi
      exact ih i hi
theorem ost_fx (M : Nat → Int32) {q : Nat} (hq : q ≤ 32) {x : Int32} : ∀ n, ost M q n x = x → ∀ a, a < n → bt x a = true → ∀ b, b < q → shQ M a b = true → bt x b = true
  | 0, _, a, z => absurd z (Nat.not_lt_zero a)
  | n + 1, e, a, z => by
    have en : ost M q n x = x := bt_le (fun i w => by
      have w2 := ost_up M hq n x i w
      rw [e] at w2
      exact w2) (ost_i M hq n x)
    by_cases y : a = n
    · subst y
      intro ha b hb hs
      rw [ost_s, en, if_pos ha] at e
      have w := (jst_b M a q hq x b).mpr (Or.inr ⟨hb, hs⟩)
      rw [e] at w
      exact w
    · exact ost_fx M hq n en a (by omega)
theorem ost_cl {M : Nat → Int32} {s : Sg} (P : PlnR 24 s M) {x : Int32} (h : ost M (M 1).toInt.toNat (M 1).toInt.toNat x = x) : ClQ M x := fun a b y ha hb hx h1' h2' => by
  have b1 := P.2.1.2.1
  exact ost_fx M (by omega) _ h a (by omega) hx b (by omega) ((sh_cl P ha).mpr ⟨y, h1', h2'⟩)
theorem chn_eq {M : Nat → Int32} {s : Sg} (P : PlnR 24 s M) {q : Nat} (hq : (q : Int) < (M 1).toInt) : itf (cst (s.1 34) (M 0).toInt.toNat) 8 (bitI q) = itf (ost M (M 1).toInt.toNat (M 1).toInt.toNat) 8 (bitI q) := by
  have b0 := P.2.1.1
  have b1 := P.2.1.2.1
  have i1 := cst_i (s.1 34) (M 0).toInt.toNat
  have i2 := ost_i M (q := (M 1).toInt.toNat) (by omega) (M 1).toInt.toNat
  have f1 := itf_fix i1 id (M 1).toInt.toNat (fun x i w => cst_l (s.1 34) (M 1).toInt.toNat _ x i (fun h hh j hj => by have := ((qa_b P (by omega) j).mp hj).1; omega) w) 8 (bitI q) (by have := cnp_le id (bitI q) (M 1).toInt.toNat; omega)
  have f2 := itf_fix i2 id (M 1).toInt.toNat (fun x i w => ost_l M (by omega) _ x i w) 8 (bitI q) (by have := cnp_le id (bitI q) (M 1).toInt.toNat; omega)
  have c1 := cst_cl P f1
  have c2 := ost_cl P f2
  exact bt_le (itf_min (fun x g => cst_min P c2 _ (by omega) x g) 8 (bitI q) (itf_inf i2 8 (bitI q))) (itf_min (fun x g => ost_min P c1 _ (by omega) x g) 8 (bitI q) (itf_inf i1 8 (bitI q)))
theorem chm_55 {s t : Sg} (P : PlnR 24 s (t.1 1)) {k : Int32 → Int32 → Int32 → Sg → Option (Int32 × Sg)} {Q : Int32 → Sg → Prop} {v4 : Int32} {a : Nat} (h4 : v4.toInt = (a : Int)) (ha : (a : Int) < (t.1 1 1).toInt) (v3 x0 : Int32) (hk : PQ (k (jst (t.1 1) a (t.1 1 1).toInt.toNat x0) v3 (v4 + 1) t) Q) (m : Nat) : ∀ (i : Nat) (v2 v5 : Int32), v5.toInt = (i : Int) → (i : Int) ≤ (t.1 1 1).toInt → v2 = jst (t.1 1) a i x0 → PQ (f_X12_chain_b55 k m v2 v3 v4 v5 t) Q := by
  induction m with
  | zero => intro i v2 v5 _ _ _ r s' z; cases z
  | succ m ih =>
    intro i v2 v5 h5 hi h2
    have e1 : (1 : Int32).toInt = 1 := rfl
    have b1 := P.2.1.2.1
    have en := ends_h P ha
    have x := qr_x h4 en.2.2.2.2
    unfold f_X12_chain_b55
    refine pq_if (fun c => ?_) (fun c => ?_)
    · have c := i_le c
      have z : (t.1 1 1).toInt.toNat = i := by omega
      rw [z, ← h2] at hk
      exact hk
    · have c := i_nle c
      have i8 : i < 8 := by omega
      have a5 : (v5 + 1).toInt = ((i + 1 : Nat) : Int) := by rw [i_addx _ _ (by omega)]; omega
      have yes : ∀ x18 : Int32, shQ (t.1 1) a i = true → x18 = v2 ||| ((1 : Int32) <<< (v5 &&& 31)) → PQ (f_X12_chain_b55 k m x18 v3 v4 (v5 + 1) t) Q := fun x18 w e => ih (i + 1) x18 (v5 + 1) a5 (by omega) (by rw [jst_s, if_pos w, e, bitI_v h5 (by omega), h2])
      refine pq_b (qh_p v4 0 t) (fun r8 t9 g => pq_c (fun _ => ?_))
      obtain ⟨et, g⟩ := g
      subst et
      rw [g, x.1]
      refine pq_b (isAt_m h5 i8 en.1.1 t9) (fun r11 t12 k1 => ?_)
      obtain ⟨et, k1⟩ := k1
      subst et
      refine pq_if (fun d => pq_b (qh_p v4 1 t12) (fun r13 t14 g => pq_c (fun _ => ?_))) (fun d => pq_n (fun x19 e => yes x19 (Bool.or_eq_true_iff.mpr (Or.inl (r1_y k1 d))) e))
      obtain ⟨et, g⟩ := g
      subst et
      rw [g, x.2.1]
      refine pq_b (isAt_m h5 i8 en.1.2 t14) (fun r16 t17 k2 => ?_)
      obtain ⟨et, k2⟩ := k2
      subst et
      refine pq_if (fun f => ih (i + 1) v2 (v5 + 1) a5 (by omega) ?_) (fun f => pq_n (fun x18 e => yes x18 (Bool.or_eq_true_iff.mpr (Or.inr (r1_y k2 f))) e))
      rw [jst_s, if_neg (show ¬ shQ (t17.1 1) a i = true from fun w => (Bool.or_eq_true_iff.mp w).elim (r1_n k1 d) (r1_n k2 f))]
      exact h2
theorem chm_29 {s t : Sg} (P : PlnR 24 s (t.1 1)) {k : Int32 → Int32 → Sg → Option (Int32 × Sg)} {Q : Int32 → Sg → Prop} (v3 x0 : Int32) (hk : PQ (k (ost (t.1 1) (t.1 1 1).toInt.toNat (t.1 1 1).toInt.toNat x0) (v3 + 1) t) Q) (m : Nat) : ∀ (i : Nat) (v2 v4 : Int32), v4.toInt = (i : Int) → (i : Int) ≤ (t.1 1 1).toInt → v2 = ost (t.1 1) (t.1 1 1).toInt.toNat i x0 → PQ (f_X12_chain_b29 k m v2 v3 v4 t) Q := by
  induction m with
  | zero => intro i v2 v4 _ _ _ r s' z; cases z
  | succ m ih =>
    intro i v2 v4 h4 hi h2
    have e1 : (1 : Int32).toInt = 1 := rfl
    have b1 := P.2.1.2.1
    unfold f_X12_chain_b29
    refine pq_if (fun c => ?_) (fun c => ?_)
    · have c := i_le c
      have z : (t.1 1 1).toInt.toNat = i := by omega
      have e : ost (t.1 1) (t.1 1 1).toInt.toNat (t.1 1 1).toInt.toNat x0 = v2 := by rw [h2]; exact congrArg (fun j => ost (t.1 1) (t.1 1 1).toInt.toNat j x0) z
      rw [e] at hk
      exact hk
    · have c := i_nle c
      have a4 : (v4 + 1).toInt = ((i + 1 : Nat) : Int) := by rw [i_addx _ _ (by omega)]; omega
      have sh := sh1_0 v2 v4 h4 (by omega)
      refine pq_if (fun d => ih (i + 1) v2 (v4 + 1) a4 (by omega) ?_) (fun d => chm_55 P h4 (by omega) v3 v2 (ih (i + 1) _ (v4 + 1) a4 (by omega) ?_) BIG 0 v2 0 rfl b1.1 rfl)
      · rw [ost_s, if_neg (by rw [← h2]; exact sh.mp d)]
        exact h2
      · rw [ost_s, if_pos (by rw [← h2]; exact Classical.byContradiction (fun z => d (sh.mpr z))), ← h2]
theorem chm_20 {s t : Sg} (P : PlnR 24 s (t.1 1)) (x0 : Int32) (m : Nat) : ∀ (j : Nat) (v2 v3 : Int32), v3.toInt = (j : Int) → j ≤ 8 → itf (ost (t.1 1) (t.1 1 1).toInt.toNat (t.1 1 1).toInt.toNat) (8 - j) v2 = itf (ost (t.1 1) (t.1 1 1).toInt.toNat (t.1 1 1).toInt.toNat) 8 x0 → PQ (f_X12_chain_b20 m v2 v3 t) (fun r t' => t'.1 0 2 = 0 ∧ r = itf (ost (t.1 1) (t.1 1 1).toInt.toNat (t.1 1 1).toInt.toNat) 8 x0) := by
  induction m with
  | zero => intro j v2 v3 _ _ _ r s' z; cases z
  | succ m ih =>
    intro j v2 v3 h3 hj h2
    have e1 : (1 : Int32).toInt = 1 := rfl
    have e8 : (8 : Int32).toInt = 8 := rfl
    unfold f_X12_chain_b20
    refine pq_if (fun c => ?_) (fun c => chm_29 P v3 v2 ?_ BIG 0 v2 0 rfl P.2.1.2.1.1 rfl)
    · have c := i_le c
      have z : j = 8 := by omega
      rw [z] at h2
      have q : PQ (some (v2, pI t 0 2 0)) (fun r t' => t'.1 0 2 = 0 ∧ r = itf (ost (t.1 1) (t.1 1 1).toInt.toNat (t.1 1 1).toInt.toNat) 8 x0) := pq_s ⟨q_eq, h2⟩
      exact q
    · have c := i_nle c
      refine ih (j + 1) _ (v3 + 1) (by rw [i_addx _ _ (by omega)]; omega) (by omega) ?_
      rw [← h2, show 8 - j = (8 - (j + 1)) + 1 by omega]
      rfl
def QsM (M : Nat → Int32) (a : Int32) : Prop := 0 ≤ a.toInt ∧ a.toInt < (M 1).toInt
theorem isQ_c {M : Nat → Int32} {s : Sg} (P : PlnR 24 s M) (a : Int32) : PQ (f_X11_isQuarrel a s) (fun r s' => s' = s ∧ Fl (QsM M a) r) := by
  have e : s.1 25 14 = M 1 := P.1.2.1
  have b := P.2.1.2.1
  have e0 : (0 : Int32).toInt = 0 := rfl
  have e1 : (1 : Int32).toInt = 1 := rfl
  have sb := i_sub (s.1 25 14) 1
  unfold f_X11_isQuarrel
  refine pq_b (wi_p a 0 ((s.1 25 14) - 1) s) (fun r s2 g => pq_c (fun _ => pq_s ⟨g.1, ?_⟩))
  rw [e] at sb g
  unfold Fl QsM
  rcases g.2 with q | q
  · exact Or.inl ⟨q.1, by omega, by omega⟩
  · exact Or.inr ⟨q.1, by omega⟩
theorem isQ_m (a : Int32) (t : Sg) : PQ (f_X12_isQuarrel a t) (fun r t' => t' = t ∧ Fl (QsM (t.1 1) a) r) := by
  have e0 : (0 : Int32).toInt = 0 := rfl
  unfold f_X12_isQuarrel Fl QsM
  refine pq_if (fun c => pq_s ⟨rfl, Or.inr ⟨rfl, ?_⟩⟩) (fun c => pq_if (fun d => pq_s ⟨rfl, Or.inr ⟨rfl, ?_⟩⟩) (fun d => pq_s ⟨rfl, Or.inl ⟨rfl, ?_⟩⟩))
  · have := i_lt c
    omega
  · have := i_le d
    omega
  · have := i_nlt c
    have := i_nle d
    omega
theorem chain_q {s t : Sg} (P : PlnR 24 s (t.1 1)) (a : Int32) : RQ (f_X11_chain a s) (f_X12_chain a t) AnQ := by
  have b1 := P.2.1.2.1
  unfold f_X11_chain f_X12_chain
  refine rq_f (isQ_c P a) (isQ_m a t) Iff.rfl (fun hq => ?_) (fun _ => ?_)
  · rw [if_neg i10, if_neg i10]
    unfold QsM at hq
    have ha : a.toInt = (a.toInt.toNat : Int) := by omega
    unfold f_X4_joinedTo
    rw [bitI_v ha (by omega)]
    refine rq_bC (P := fun r s' => s' = s ∧ r = itf (cst (s.1 34) (t.1 1 0).toInt.toNat) 8 (bitI a.toInt.toNat)) (pq_n (fun x1 e => ?_)) (fun r3 s4 g => rq_nM (fun x3 e3 => ?_))
    · rw [e]
      exact chn_6 P _ BIG 0 _ 0 rfl (by decide) rfl
    · obtain ⟨es, g⟩ := g
      subst es
      rw [e3]
      have q : RQ (some (r3, pI s4 0 15 0)) (f_X12_chain_b20 BIG (bitI a.toInt.toNat) 0 t) AnQ := rq_pp (P := fun r s' => r = r3 ∧ s'.1 0 15 = 0) (pq_s ⟨rfl, q_eq⟩) (chm_20 P (bitI a.toInt.toNat) BIG 0 _ 0 rfl (by decide) rfl) (fun r s r' t' x y => ⟨by rw [x.1, g, y.2]; exact chn_eq P (by omega), x.2.trans y.1.symm⟩)
      exact q
  · rw [if_pos rfl, if_pos rfl]
    exact aq_rf s t 1
