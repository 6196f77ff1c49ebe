/-! live and lived on both sides -/
theorem begin_c (a : Int32) (s : Sg) : PQ (f_X3_begin a s) (fun _ s' => (∀ c, ¬ c = 4 → s'.1 c = s.1 c) ∧ (s'.1 4 1 = 1 ∧ s'.1 4 2 = a ∧ s'.1 4 3 = 0 ∧ s'.1 4 4 = 0 ∧ s'.1 4 5 = 0 ∧ s'.1 4 6 = 0 ∧ s'.1 4 7 = 0 ∧ s'.1 4 8 = 0)) := by
  unfold f_X3_begin
  refine pq_n (fun s1 e1 => pq_n (fun s2 e2 => pq_s ?_))
  subst e1
  subst e2
  refine ⟨fun c hc => ?_, ?_, ?_, ?_, ?_, ?_, ?_, ?_, q_eq⟩
  · rw [pI_o _ _ _ _ _ hc, pI_o _ _ _ _ _ hc, pI_o _ _ _ _ _ hc, pI_o _ _ _ _ _ hc, pI_o _ _ _ _ _ hc, pI_o _ _ _ _ _ hc, pI_o _ _ _ _ _ hc, pI_o _ _ _ _ _ hc]
  · rw [q_ne rfl, q_ne rfl, q_ne rfl, q_ne rfl, q_ne rfl, q_ne rfl, q_ne rfl, q_eq]
  · rw [q_ne rfl, q_ne rfl, q_ne rfl, q_ne rfl, q_ne rfl, q_ne rfl, q_eq]
  · rw [q_ne rfl, q_ne rfl, q_ne rfl, q_ne rfl, q_ne rfl, q_eq]
  · rw [q_ne rfl, q_ne rfl, q_ne rfl, q_ne rfl, q_eq]
  · rw [q_ne rfl, q_ne rfl, q_ne rfl, q_eq]
  · rw [q_ne rfl, q_ne rfl, q_eq]
  · rw [q_ne rfl, q_eq]
theorem begin_cz (a : Int32) (s : Sg) : PQ (f_X3_begin_5 a s) (fun _ s' => (∀ c, ¬ c = 5 → s'.1 c = s.1 c) ∧ (s'.1 5 1 = 1 ∧ s'.1 5 2 = a ∧ s'.1 5 3 = 0 ∧ s'.1 5 4 = 0 ∧ s'.1 5 5 = 0 ∧ s'.1 5 6 = 0 ∧ s'.1 5 7 = 0 ∧ s'.1 5 8 = 0)) := by
  unfold f_X3_begin_5
  refine pq_n (fun s1 e1 => pq_n (fun s2 e2 => pq_s ?_))
  subst e1
  subst e2
  refine ⟨fun c hc => ?_, ?_, ?_, ?_, ?_, ?_, ?_, ?_, q_eq⟩
  · rw [pI_o _ _ _ _ _ hc, pI_o _ _ _ _ _ hc, pI_o _ _ _ _ _ hc, pI_o _ _ _ _ _ hc, pI_o _ _ _ _ _ hc, pI_o _ _ _ _ _ hc, pI_o _ _ _ _ _ hc, pI_o _ _ _ _ _ hc]
  · rw [q_ne rfl, q_ne rfl, q_ne rfl, q_ne rfl, q_ne rfl, q_ne rfl, q_ne rfl, q_eq]
  · rw [q_ne rfl, q_ne rfl, q_ne rfl, q_ne rfl, q_ne rfl, q_ne rfl, q_eq]
  · rw [q_ne rfl, q_ne rfl, q_ne rfl, q_ne rfl, q_ne rfl, q_eq]
  · rw [q_ne rfl, q_ne rfl, q_ne rfl, q_ne rfl, q_eq]
  · rw [q_ne rfl, q_ne rfl, q_ne rfl, q_eq]
  · rw [q_ne rfl, q_ne rfl, q_eq]
  · rw [q_ne rfl, q_eq]
theorem lv_12 {α : Type} {oC : Option (α × Sg)} {R : α → Sg → Unit → Sg → Prop} {t0 : Sg} (H : ∀ t, (∀ c, ¬ c = 11 → t.1 c = t0.1 c) → (∀ k, k < 5 → t.1 11 k = 0) → RQ oC (f_X12_lives_b32 BIG 0 t) R) (m : Nat) : ∀ (i : Nat) (v : Int32) (t : Sg), v.toInt = (i : Int) → i ≤ 5 → (∀ c, ¬ c = 11 → t.1 c = t0.1 c) → (∀ k, k < i → t.1 11 k = 0) → RQ oC (f_X12_lives_b12 m v t) R := by
  induction m with
  | zero => intro i v t _ _ _ _ a s b t' _ e; cases e
  | succ m ih =>
    intro i v t hv hi h1 h2
    have e1 : (1 : Int32).toInt = 1 := rfl
    have e5 : (5 : Int32).toInt = 5 := rfl
    unfold f_X12_lives_b12
    refine rq_iM (fun c => H t h1 (fun k hk => h2 k ?_)) (fun c => rq_cM (fun _ => ?_))
    · have c := i_le c
      omega
    · have c := i_nle c
      rw [cl_h hv]
      refine ih (i + 1) (v + 1) _ (by rw [i_addx _ _ (by omega)]; omega) (by omega) (fun c hc => ?_) (fun k hk => ?_)
      · rw [pI_o _ _ _ _ _ hc]; exact h1 c hc
      · rw [pI_1]
        by_cases z : k = i
        · rw [if_pos ⟨rfl, z⟩]
        · rw [if_neg (fun y => z y.2)]
          exact h2 k (by omega)
/-- life, begun and run, on both sides -/
theorem run_r {s t : Sg} {X : Nat} {K : Int} (hK : 9999 ≤ K ∧ K + 200000 ≤ 900000000) (H : NowG 0 s t) (D : DyE s t) (G : GnR (t.1 1) K) (P : PgX X s (t.1 1)) (a : Int32) : RQ (f_X3_run_25_26_27 a s) (f_X12_lives a t) (fun _ s' _ t' => LfB X K s' t') := by
  unfold f_X3_run_25_26_27 f_X12_lives
  refine rq_bC (begin_c a s) (fun _ s2 k => ?_)
  obtain ⟨k0, k1, k2, k3, k4, k5, k6, k7, k8⟩ := k
  have q29 : (pI (pI t 0 29 a) 0 30 0).1 0 29 = a := by rw [q_ne rfl, q_eq]
  have q30 : (pI (pI t 0 29 a) 0 30 0).1 0 30 = 0 := q_eq
  have q24 : (pI (pI t 0 29 a) 0 30 0).1 0 24 = t.1 0 24 := by rw [q_ne rfl, q_ne rfl]
  have q1 : (pI (pI t 0 29 a) 0 30 0).1 1 = t.1 1 := by rw [pI_o _ _ _ _ _ (by decide), pI_o _ _ _ _ _ (by decide)]
  have e0 : (0 : Int32).toInt = 0 := rfl
  have P2 : PgX X s2 (t.1 1) := pgx_k P (fun c hc => k0 c (by omega)) (fun _ _ => rfl)
  refine lv_12 (t0 := pI (pI t 0 29 a) 0 30 0) (fun t2 h1 h2 => ?_) BIG 0 0 _ rfl (by decide) (fun _ _ => rfl) (fun k hk => absurd hk (Nat.not_lt_zero _))
  have m1 : t2.1 1 = t.1 1 := (h1 1 (by decide)).trans q1
  have m0 : t2.1 0 = (pI (pI t 0 29 a) 0 30 0).1 0 := h1 0 (by decide)
  refine (lf_all hK BIG).1 BIG 0 0 0 s2 t2 rfl (Nat.zero_le _) ⟨⟨⟨ng_k H (fun c hc => k0 c (by omega)) (fun k _ => by rw [m1]) (by rw [m0, q24]), dye_k D (by rw [k0 26 (by decide)]) (by rw [m1])⟩, ⟨?_, ?_, ?_, ?_, ?_, ?_⟩, ?_⟩, ?_, ?_⟩ (fun p _ hp => absurd hp (Nat.not_lt_zero _)) (fun nX e26 => ?_) (by rw [e0]; decide) ?_
  · rw [m0, q29]; exact k2
  · rw [m0, q30]; exact k3
  · rw [h2 0 (by decide), k4]; rfl
  · rw [h2 1 (by decide)]; exact k5
  · rw [h2 2 (by decide)]; exact k6
  · rw [h2 3 (by decide)]; exact k7
  · rw [m1, m0, q30, e0]
    exact ⟨gn_up G (by omega), by decide, by decide⟩
  · rw [m1]; exact P2
  · rw [k8, h2 4 (by decide)]
    exact ⟨rfl, k1⟩
  · rw [m1] at e26
    obtain ⟨p, p1, -⟩ := pg_end P2 nX e26
    exact absurd p1 (Nat.not_lt_zero _)
  · rw [m0, q30, e0]
    decide
/-- life, begun and run, on both sides -/
theorem run_rz {s t : Sg} {X : Nat} {K : Int} (hK : 9999 ≤ K ∧ K + 200000 ≤ 900000000) (H : NowG 27 s t) (D : DyEz s t) (G : GnR (t.1 1) K) (P : PgX X s (t.1 1)) (a : Int32) : RQ (f_X3_run_25_53_27_5 a s) (f_X12_lives a t) (fun _ s' _ t' => LfBz X K s' t') := by
  unfold f_X3_run_25_53_27_5 f_X12_lives
  refine rq_bC (begin_cz a s) (fun _ s2 k => ?_)
  obtain ⟨k0, k1, k2, k3, k4, k5, k6, k7, k8⟩ := k
  have q29 : (pI (pI t 0 29 a) 0 30 0).1 0 29 = a := by rw [q_ne rfl, q_eq]
  have q30 : (pI (pI t 0 29 a) 0 30 0).1 0 30 = 0 := q_eq
  have q24 : (pI (pI t 0 29 a) 0 30 0).1 0 24 = t.1 0 24 := by rw [q_ne rfl, q_ne rfl]
  have q1 : (pI (pI t 0 29 a) 0 30 0).1 1 = t.1 1 := by rw [pI_o _ _ _ _ _ (by decide), pI_o _ _ _ _ _ (by decide)]
  have e0 : (0 : Int32).toInt = 0 := rfl
  have P2 : PgX X s2 (t.1 1) := pgx_k P (fun c hc => k0 c (by omega)) (fun _ _ => rfl)
  refine lv_12 (t0 := pI (pI t 0 29 a) 0 30 0) (fun t2 h1 h2 => ?_) BIG 0 0 _ rfl (by decide) (fun _ _ => rfl) (fun k hk => absurd hk (Nat.not_lt_zero _))
  have m1 : t2.1 1 = t.1 1 := (h1 1 (by decide)).trans q1
  have m0 : t2.1 0 = (pI (pI t 0 29 a) 0 30 0).1 0 := h1 0 (by decide)
  refine (lf_allz hK BIG).1 BIG 0 0 0 s2 t2 rfl (Nat.zero_le _) ⟨⟨⟨ng_k H (fun c hc => k0 c (by omega)) (fun k _ => by rw [m1]) (by rw [m0, q24]), dye_kz D (by rw [k0 53 (by decide)]) (by rw [m1])⟩, ⟨?_, ?_, ?_, ?_, ?_, ?_⟩, ?_⟩, ?_, ?_⟩ (fun p _ hp => absurd hp (Nat.not_lt_zero _)) (fun nX e26 => ?_) (by rw [e0]; decide) ?_
  · rw [m0, q29]; exact k2
  · rw [m0, q30]; exact k3
  · rw [h2 0 (by decide), k4]; rfl
  · rw [h2 1 (by decide)]; exact k5
  · rw [h2 2 (by decide)]; exact k6
  · rw [h2 3 (by decide)]; exact k7
  · rw [m1, m0, q30, e0]
    exact ⟨gn_up G (by omega), by decide, by decide⟩
  · rw [m1]; exact P2
  · rw [k8, h2 4 (by decide)]
    exact ⟨rfl, k1⟩
  · rw [m1] at e26
    obtain ⟨p, p1, -⟩ := pg_end P2 nX e26
    exact absurd p1 (Nat.not_lt_zero _)
  · rw [m0, q30, e0]
    decide
theorem lv_43 {t0 : Sg} (m : Nat) : ∀ (i : Nat) (v : Int32) (t : Sg), v.toInt = (i : Int) → i ≤ 5 → (∀ c, ¬ c = 12 → t.1 c = t0.1 c) → (∀ k, k < i → t.1 12 k = t0.1 11 k) → PQ (f_X12_live_b43 m v t) (fun r t' => r = t0.1 0 30 ∧ (t'.1 0 34 = 1 ∧ t'.1 0 2 = 0 ∧ ∀ k, k < 5 → t'.1 12 k = t0.1 11 k) ∧ (∀ c, ¬ c = 0 → ¬ c = 12 → t'.1 c = t0.1 c) ∧ ∀ k, ¬ k = 34 → ¬ k = 2 → t'.1 0 k = t0.1 0 k) := by
  induction m with
  | zero => intro i v t _ _ _ _ r t' e; cases e
  | succ m ih =>
    intro i v t hv hi h1 h2
    have e1 : (1 : Int32).toInt = 1 := rfl
    have e5 : (5 : Int32).toInt = 5 := rfl
    unfold f_X12_live_b43
    refine pq_if (fun c => ?_) (fun c => pq_c (fun _ => pq_n (fun t2 e2 => ?_)))
    · have c := i_le c
      have q : PQ (some ((pI t 0 34 1).1 0 30, pI (pI t 0 34 1) 0 2 0)) (fun r t' => r = t0.1 0 30 ∧ (t'.1 0 34 = 1 ∧ t'.1 0 2 = 0 ∧ ∀ k, k < 5 → t'.1 12 k = t0.1 11 k) ∧ (∀ c, ¬ c = 0 → ¬ c = 12 → t'.1 c = t0.1 c) ∧ ∀ k, ¬ k = 34 → ¬ k = 2 → t'.1 0 k = t0.1 0 k) := by
        refine pq_s ⟨?_, ⟨?_, q_eq, fun k hk => ?_⟩, fun c c1 c2 => ?_, fun k k1 k2 => ?_⟩
        · rw [q_ne rfl, h1 0 (by decide)]
        · rw [q_ne rfl, q_eq]
        · rw [q_nc rfl, q_nc rfl]; exact h2 k (by omega)
        · rw [pI_o _ _ _ _ _ c1, pI_o _ _ _ _ _ c1]; exact h1 c c2
        · rw [pI_1, if_neg (fun z => k2 z.2), pI_1, if_neg (fun z => k1 z.2), h1 0 (by decide)]
      exact q
    · have c := i_nle c
      rw [cl_h hv] at e2
      refine ih (i + 1) (v + 1) t2 (by rw [i_addx _ _ (by omega)]; omega) (by omega) (fun c hc => ?_) (fun k hk => ?_)
      · rw [e2, pI_o _ _ _ _ _ hc]; exact h1 c hc
      · rw [e2, pI_1]
        by_cases z : k = i
        · rw [if_pos ⟨rfl, z⟩, z, h1 11 (by decide)]
        · rw [if_neg (fun y => z y.2)]
          exact h2 k (by omega)
/-- what live leaves of the tallies on both sides -/
def LvT (s t s' t' : Sg) : Prop := (s'.1 4 = s.1 4 ∧ t'.1 12 = t.1 12 ∧ t'.1 0 34 = t.1 0 34) ∨ (s'.1 4 1 = 1 ∧ t'.1 0 34 = 1 ∧ s'.1 4 4 = t'.1 12 0 ∧ s'.1 4 5 = t'.1 12 1 ∧ s'.1 4 6 = t'.1 12 2 ∧ s'.1 4 7 = t'.1 12 3 ∧ s'.1 4 8 = t'.1 12 4)
theorem prg_x {s : Sg} {M : Nat → Int32} (h : PrgR s M) : (s.1 27 6 = 0 ∧ M 11 = -1) ∨ ∃ X : Nat, PgX X s M := by
  rcases h with h | ⟨h1, X, h2, h3, h4⟩
  · exact Or.inl h
  · exact Or.inr ⟨X, ⟨h1, h2⟩, h3, h4⟩
theorem prg_of {s : Sg} {M : Nat → Int32} {X : Nat} (h : PgX X s M) : PrgR s M := Or.inr ⟨h.1.1, X, h.1.2, h.2.1, h.2.2⟩
theorem live_r {s t : Sg} {K : Int} (hK : 9999 ≤ K ∧ K + 200000 ≤ 900000000) (H : NowG 0 s t) (D : DyE s t) (G : GnR (t.1 1) K) (P : PrgR s (t.1 1)) (a : Int32) : RQ (f_X11_live a s) (f_X12_live a t) (fun r s' r' t' => (AnS r s' r' t' ∧ DyE s' t' ∧ GnR (t'.1 1) (K + 120000) ∧ PrgR s' (t'.1 1)) ∧ LvT s t s' t') := by
  have rf : ∀ w : Int32, RQ (bd (f_X11_refuse w s) (fun r s => some (r, s))) (bd (f_X12_refuse w t) (fun r t => some (r, t))) (fun r s' r' t' => (AnS r s' r' t' ∧ DyE s' t' ∧ GnR (t'.1 1) (K + 120000) ∧ PrgR s' (t'.1 1)) ∧ LvT s t s' t') := fun w => by
    have q1 : (pI t 0 2 w).1 1 = t.1 1 := pI_o _ _ _ _ _ (by decide)
    have q : RQ (some ((-1 : Int32), pI s 0 15 w)) (some ((-1 : Int32), pI t 0 2 w)) (fun r s' r' t' => (AnS r s' r' t' ∧ DyE s' t' ∧ GnR (t'.1 1) (K + 120000) ∧ PrgR s' (t'.1 1)) ∧ LvT s t s' t') := rq_s ⟨⟨⟨rfl, by rw [q_eq, q_eq], ng_k H (fun c hc => pI_o _ _ _ _ _ (by omega)) (fun k _ => q_nc rfl) (q_ne rfl)⟩, dye_k D (q_nc rfl) (q_nc rfl), by rw [q1]; exact gn_up G (by omega), by
      rw [q1]
      rcases prg_x P with y | ⟨X, y⟩
      · exact Or.inl ⟨by rw [q_nc rfl]; exact y.1, y.2⟩
      · exact prg_of (pgx_k y (fun c hc => pI_o _ _ _ _ _ (by omega)) (fun _ _ => rfl))⟩, Or.inl ⟨pI_o _ _ _ _ _ (by decide), pI_o _ _ _ _ _ (by decide), q_ne rfl⟩⟩
    exact q
  unfold f_X11_live f_X12_live
  refine rq_f (P := (0 : Int32).toInt ≤ a.toInt ∧ a.toInt ≤ (9999 : Int32).toInt) (wi_p a 0 9999 s) (from_m a 0 9999 t) Iff.rfl (fun _ => ?_) (fun _ => ?_)
  · rw [if1, if1]
    rcases prg_x P with ⟨y1, y2⟩ | ⟨X, y⟩
    · rw [if_pos y1, if_pos y2]
      exact rf 6
    · have n11 : ¬ t.1 1 11 = -1 := fun z => by
        have w := y.1.2.2.1
        rw [z] at w
        have e : (-1 : Int32).toInt = -1 := rfl
        omega
      rw [if_neg (by rw [y.1.1]; decide), if_neg n11]
      refine rq_b2 (run_r hK H D G y a) (fun _ s8 _ t8 k => ?_)
      obtain ⟨⟨⟨k1, k2⟩, ⟨u1, u2, u3, u4, u5, u6⟩, k4, k5, k6⟩, k7, k8⟩ := k
      refine rq_pp (P := fun r s' => r = s8.1 4 3 ∧ s' = pI s8 0 15 0) (pq_s ⟨rfl, rfl⟩) (lv_43 (t0 := t8) BIG 0 0 t8 rfl (by decide) (fun _ _ => rfl) (fun k hk => absurd hk (Nat.not_lt_zero _))) (fun r s' r' t' e f => ?_)
      obtain ⟨e1, e2⟩ := e
      obtain ⟨f1, ⟨f2, f3, f4⟩, f5, f6⟩ := f
      have m1 : t'.1 1 = t8.1 1 := f5 1 (by decide) (by decide)
      subst e2
      refine ⟨⟨⟨e1.trans (u2.trans f1.symm), by rw [q_eq, f3], ng_k k1 (fun c hc => pI_o _ _ _ _ _ (by omega)) (fun k _ => by rw [m1]) (f6 24 (by decide) (by decide))⟩, dye_k k2 (q_nc rfl) (by rw [m1]), by rw [m1]; exact gn_up k4 (by omega), by
        rw [m1]
        exact prg_of (pgx_k k7 (fun c hc => pI_o _ _ _ _ _ (by omega)) (fun _ _ => rfl))⟩, Or.inr ⟨?_, f2, ?_, ?_, ?_, ?_, ?_⟩⟩
      · rw [q_nc rfl]; exact k8.2
      · rw [q_nc rfl, f4 0 (by decide), u3, add0]
      · rw [q_nc rfl, f4 1 (by decide)]; exact u4
      · rw [q_nc rfl, f4 2 (by decide)]; exact u5
      · rw [q_nc rfl, f4 3 (by decide)]; exact u6
      · rw [q_nc rfl, f4 4 (by decide)]; exact k8.1
  · rw [if0, if0]
    exact rf 1
