/-! the reference's calls keep the plan in use -/
def PK (t0 t : Sg) : Prop := (∀ p, (110 ≤ p ∨ PlP p ∨ p = 11) → t.1 1 p = t0.1 1 p) ∧ t.1 0 24 = t0.1 0 24
theorem pk_r {t : Sg} : PK t t := ⟨fun _ _ => rfl, rfl⟩
theorem pk_kl {w : Bool} {t0 t t' : Sg} (h : PK t0 t) (k : KL w t t') : PK t0 t' := ⟨fun p hp => (k.2.1 p hp).trans (h.1 p hp), (k.2.2.2.1 24 (by decide) (by decide)).trans h.2⟩
theorem pk_o {t0 t : Sg} {c k : Nat} {v : Int32} (h : PK t0 t) (e : ¬ c = 1) (e0 : c = 0 → ¬ k = 24) : PK t0 (pI t c k v) := ⟨fun p hp => by rw [pI_o _ _ _ _ _ (fun z => e z.symm)]; exact h.1 p hp, by
  rw [pI_1, if_neg (fun z => e0 z.1.symm z.2.symm)]
  exact h.2⟩
theorem pk_2 {t0 t : Sg} {v : Int32} (h : PK t0 t) : PK t0 (pI t 0 2 v) := pk_o h (by decide) (fun _ => by decide)
theorem pk_f {L : Nat} {t0 t t' : Sg} (h : PK t0 t) (f : Fr cdN L t t') (e1 : L.testBit 1 = false) (e2 : L.testBit 44 = false) : PK t0 t' := ⟨fun p hp => (fr_e f 1 p 1 rfl e1).trans (h.1 p hp), (fr_e f 0 24 44 rfl e2).trans h.2⟩
theorem pk_e {t0 t t' : Sg} (h : PK t0 t) (e : t' = t) : PK t0 t' := by rw [e]; exact h
theorem bd_x {t0 t : Sg} (h : BdK t0) (k : ∀ p, PlP p → t.1 1 p = t0.1 1 p) (k24 : t.1 0 24 = t0.1 0 24) : BdK t := by
  have e : ∀ p, p < 4 → t.1 1 p = t0.1 1 p := fun p hp => k p (plp_0 (Or.inl hp))
  obtain ⟨h0, h1, h2, h3, h4, h5⟩ := h
  unfold BdK
  rw [e 0 (by decide), e 1 (by decide), e 2 (by decide), k24]
  refine ⟨h0, h1, h2, fun c hc => ?_, fun q hq => ?_, h5⟩
  · rw [k _ (plp_c (c := c) (by omega)).1, k _ (plp_c (c := c) (by omega)).2.1]
    exact h3 c hc
  · have w := h4 q hq
    refine ⟨w.1, ?_⟩
    unfold EndsM
    rw [k _ (plp_q w.1).1, k _ (plp_q w.1).2.1]
    exact w.2
theorem bd_pk {t0 t : Sg} (h : BdK t0) (k : PK t0 t) : BdK t := bd_x h (fun p hp => k.1 p (plq hp)) k.2
theorem bd_pl {s t : Sg} (P : PlnR 24 s (t.1 1)) (e : t.1 0 24 = -1) : BdK t := by
  have b := P.2.1
  refine ⟨b.1, b.2.1, b.2.2.1, fun c hc => ?_, fun q hq => ⟨(pln_q P hq).1, (pln_q P hq).2.2.1⟩, e⟩
  have pc := P.2.2.2.2.2.1 c hc
  have p1 : s.1 35 c = t.1 1 (80 + 3 * c) := pc.1.1
  have p2 : s.1 36 c = t.1 1 (81 + 3 * c) := pc.1.2.1
  have q1 : 0 ≤ (s.1 35 c).toInt ∧ (s.1 35 c).toInt < (t.1 1 0).toInt := pc.2.1
  have q2 : 0 ≤ (s.1 36 c).toInt ∧ (s.1 36 c).toInt < (t.1 1 0).toInt := pc.2.2.1
  have b0 : (t.1 1 0).toInt ≤ 8 := b.1.2
  rw [← p1, ← p2]
  omega
theorem pk_rf {t0 t : Sg} (h : PK t0 t) (w : Int32) : PQ (bd (f_X12_refuse w t) (fun r t => some (r, t))) (fun _ t' => PK t0 t') := by
  have q : PQ (some ((-1 : Int32), pI t 0 2 w)) (fun _ t' => PK t0 t') := pq_s (pk_2 h)
  exact q
theorem pk_gv {t0 t : Sg} (h : PK t0 t) (v : Int32) : PQ (bd (f_X12_gives v t) (fun r t => some (r, t))) (fun _ t' => PK t0 t') := by
  have q : PQ (some (v, pI t 0 2 0)) (fun _ t' => PK t0 t') := pq_s (pk_2 h)
  exact q
theorem pk_is {t0 t : Sg} (h : PK t0 t) (w : Int32) : PQ (bd (f_X12_is w t) (fun r t => ck (r = 0 ∨ r = 1) (some (r, t)))) (fun _ t' => PK t0 t') := by
  unfold f_X12_is
  exact pq_b (P := fun _ t' => PK t0 t') (pq_if (fun _ => pq_s (pk_2 h)) (fun _ => pq_s (pk_2 h))) (fun r t' g => pq_c (fun _ => pq_s g))
theorem hs_t {M : Nat → Int32} {a : Int32} (b : (M 0).toInt ≤ 8) (h : HsM M a) : ∃ n : Nat, a.toInt = (n : Int) ∧ n < 8 := ⟨a.toInt.toNat, (hs_n b h).1, (hs_n b h).2⟩
theorem wn_hs {M : Nat → Int32} {a : Int32} {P : Prop} {r : Int32} (h : Wn M a P r) (n : ¬ r = 1) : HsM M a := by
  rcases h with w | w | w
  · exact absurd w.1 n
  · exact w.2.1.1
  · exact w.2.1.1
theorem pk_strew (a g : Int32) {t : Sg} (B : BdK t) : PQ (f_X12_strew a g t) (fun _ t' => PK t t') := by
  have b0 := B.1.2
  have fin : ∀ r, (¬ r = 1 → HsM (t.1 1) a) → PQ (f_X12_strew_b21 a g r t) (fun _ t' => PK t t') := fun r hr => by
    unfold f_X12_strew_b21
    refine pq_if (fun _ => pk_rf pk_r 1) (fun n => ?_)
    obtain ⟨h, ha, hh⟩ := hs_t b0 (hr n)
    refine pq_b (room_m ha hh g t) (fun r5 t6 k => ?_)
    obtain ⟨et, -⟩ := k
    subst et
    refine pq_if (fun _ => pk_rf pk_r 4) (fun _ => pq_if (fun _ => pk_rf pk_r 7) (fun _ => pq_b (kl_strews (w := true) kl_r ha hh g) (fun _ t12 k => pq_b (hr_p a t12) (fun r13 t14 e => pq_c (fun _ => ?_)))))
    obtain ⟨et, -⟩ := e
    subst et
    exact pk_gv (pk_kl pk_r k) _
  unfold f_X12_strew
  refine pq_b (from_m g 1 999 t) (fun r1 t2 k => ?_)
  obtain ⟨et, -⟩ := k
  subst et
  refine pq_if (fun _ => fin 1 (fun z => absurd rfl z)) (fun _ => pq_b (wrong_m a b0) (fun r t3 k => ?_))
  obtain ⟨et, k⟩ := k
  subst et
  exact fin r (wn_hs k)
theorem pk_buy (a g h : Int32) {t : Sg} (B : BdK t) (b3 : (t.1 1 3).toInt ≤ 4) : PQ (f_X12_buy a g h t) (fun _ t' => PK t t') := by
  have b0 := B.1.2
  have e0 : (0 : Int32).toInt = 0 := rfl
  unfold f_X12_buy
  refine pq_if (fun _ => pk_rf pk_r 1) (fun c1 => pq_if (fun _ => pk_rf pk_r 1) (fun c2 => pq_b (from_m g 1 999 t) (fun r5 t6 k => ?_)))
  have c1 := i_nlt c1
  have c2 := i_nle c2
  obtain ⟨et, -⟩ := k
  subst et
  refine pq_if (fun _ => pk_rf pk_r 1) (fun _ => pq_b (isH_m h t6) (fun r9 t10 k => ?_))
  obtain ⟨et, k⟩ := k
  subst et
  refine pq_if (fun _ => pk_rf pk_r 1) (fun c => ?_)
  obtain ⟨n, hn, h8⟩ := hs_t b0 (r1_y k c)
  refine pq_b (room_m hn h8 g t10) (fun r13 t14 k => ?_)
  obtain ⟨et, -⟩ := k
  subst et
  refine pq_if (fun _ => pk_rf pk_r 4) (fun _ => pq_c (fun _ => pq_if (fun _ => pq_b (gone_m hn (by omega) t14) (fun r18 t19 k => ?_)) (fun _ => pk_rf pk_r 6)))
  obtain ⟨et, -⟩ := k
  subst et
  exact pq_if (fun _ => pq_b (kl_buys (w := true) kl_r (g := a.toInt.toNat) (by omega) (by omega) hn h8 g) (fun r20 t21 k => pk_gv (pk_kl pk_r k) _)) (fun _ => pk_rf pk_r 7)
theorem pk_sweep (a : Int32) {t : Sg} (B : BdK t) : PQ (f_X12_sweep a t) (fun _ t' => PK t t') := by
  have b0 := B.1.2
  unfold f_X12_sweep
  refine pq_b (wrong_m a b0) (fun r t3 k => ?_)
  obtain ⟨et, k⟩ := k
  subst et
  refine pq_if (fun c => ?_) (fun _ => pk_rf pk_r _)
  obtain ⟨n, hn, h8⟩ := hs_t b0 (wn_hs k (fun z => by rw [z] at c; exact absurd c (by decide)))
  exact pq_b (kl_sweeps (w := true) kl_r hn h8) (fun r3 t4 k => pk_gv (pk_kl pk_r k) _)
theorem pk_shovel (a b g : Int32) {t : Sg} (B : BdK t) : PQ (f_X12_shovel a b g t) (fun _ t' => PK t t') := by
  have b0 := B.1.2
  unfold f_X12_shovel
  refine pq_b (isH_m a t) (fun r1 t2 k => ?_)
  obtain ⟨et, k⟩ := k
  subst et
  refine pq_if (fun _ => pk_rf pk_r 1) (fun c => pq_b (isH_m b t2) (fun r5 t6 l => ?_))
  obtain ⟨et, l⟩ := l
  subst et
  refine pq_if (fun _ => pk_rf pk_r 1) (fun d => ?_)
  obtain ⟨n, hn, h8⟩ := hs_t b0 (r1_y k c)
  obtain ⟨j, hj, j8⟩ := hs_t b0 (r1_y l d)
  refine pq_if (fun _ => pk_rf pk_r 1) (fun _ => pq_b (from_m g 1 999 t6) (fun r11 t12 k => ?_))
  obtain ⟨et, -⟩ := k
  subst et
  refine pq_if (fun _ => pk_rf pk_r 1) (fun _ => pq_b (grains_m hn h8 t12) (fun r15 t16 k => ?_))
  obtain ⟨et, -⟩ := k
  subst et
  refine pq_if (fun _ => pq_b (gone_m hn (by omega) t16) (fun r17 t18 k => ?_)) (fun _ => pk_rf pk_r 6)
  obtain ⟨et, -⟩ := k
  subst et
  refine pq_if (fun _ => pq_b (gone_m hj (by omega) t18) (fun r19 t20 k => ?_)) (fun _ => pk_rf pk_r 7)
  obtain ⟨et, -⟩ := k
  subst et
  exact pq_if (fun _ => pq_b (kl_brings (w := true) kl_r hn h8 hj j8 g) (fun r21 t22 k => pk_gv (pk_kl pk_r k) _)) (fun _ => pk_rf pk_r 7)
theorem pk_rain {t : Sg} (B : BdK t) : PQ (f_X12_rain t) (fun _ t' => PK t t') := by
  unfold f_X12_rain f_X12_rains
  exact pq_b (kl_rains (w := true) B BIG 0 0 0 t rfl (by decide) kl_r) (fun r t2 k => pk_gv (pk_kl pk_r k) _)
theorem pk_snow (n : Int32) {t : Sg} (B : BdK t) : PQ (f_X12_snow n t) (fun _ t' => PK t t') := by
  unfold f_X12_snow
  refine pq_b (from_m n 0 99 t) (fun r1 t2 k => ?_)
  obtain ⟨et, -⟩ := k
  subst et
  unfold f_X12_snows
  exact pq_if (fun _ => pk_is pk_r 1) (fun _ => pq_b (kl_snows (w := true) B n BIG 0 0 t2 rfl (by decide) kl_r) (fun r t3 k => pk_is (pk_kl pk_r k) 0))
theorem pk_night {t : Sg} (B : BdK t) : PQ (f_X12_night t) (fun _ t' => PK t t') := by
  unfold f_X12_night
  exact pq_if (fun _ => pk_rf pk_r 4) (fun _ => pq_b (kl_night B) (fun _ t2 k => pk_gv (pk_kl pk_r k) _))
theorem pk_b32 {t0 : Sg} (B : BdK t0) (m : Nat) : ∀ (i : Nat) (v1 v2 v3 v4 v5 : Int32) (t : Sg), v5.toInt = (i : Int) → i ≤ 8 → PK t0 t → PQ (f_X12_best_b32 m v1 v2 v3 v4 v5 t) (fun _ t' => PK t0 t') := by
  induction m with
  | zero => intro i v1 v2 v3 v4 v5 t _ _ _ r t' z; cases z
  | succ m ih =>
    intro i v1 v2 v3 v4 v5 t hv hi K
    have e1 : (1 : Int32).toInt = 1 := rfl
    have b0 := (bd_pk B K).1.2
    unfold f_X12_best_b32 f_X12_orNone
    refine pq_if (fun _ => pq_b (P := fun _ t' => PK t0 t') (pq_if (fun _ => pk_rf K 6) (fun _ => pk_gv K _)) (fun r t8 g => pq_s g)) (fun c => ?_)
    have c := i_nle c
    have hh : i < 8 := by omega
    have a5 : (v5 + 1).toInt = ((i + 1 : Nat) : Int) := by rw [i_addx _ _ (by omega)]; omega
    refine pq_b (gone_m hv (by omega) t) (fun r9 t10 k => ?_)
    obtain ⟨et, -⟩ := k
    subst et
    refine pq_if (fun _ => pq_b (hr_p v5 t10) (fun r11 t12 k => pq_c (fun _ => pq_n (fun t14 e14 => ?_)))) (fun _ => ih (i + 1) _ _ _ _ (v5 + 1) t10 a5 (by omega) K)
    obtain ⟨et, er⟩ := k
    subst et
    rw [er, (hr_x hv hh).1] at e14
    have K14 : PK t0 t14 := by
      rw [e14]
      exact pk_kl K (kl_i (w := true) kl_r (gpl_h hh (Or.inl rfl)))
    refine pq_b (ft_X12_setOf 0 t14) (fun r15 t16 f16 => pq_b (ft_X12_bits _ t16) (fun r17 t18 f18 => pq_b (hr_p v5 t18) (fun r19 t20 k => pq_c (fun _ => pq_n (fun t22 e22 => ?_)))))
    obtain ⟨et, er⟩ := k
    have K20 : PK t0 t20 := pk_e (pk_f (pk_f K14 f16 rfl rfl) f18 rfl rfl) et
    rw [er, (hr_x hv hh).1] at e22
    have K22 : PK t0 t22 := by
      rw [e22]
      exact pk_kl K20 (kl_i (w := true) kl_r (gpl_h hh (Or.inl rfl)))
    exact pq_if (fun _ => ih (i + 1) _ _ _ _ (v5 + 1) t22 a5 (by omega) K22) (fun _ => ih (i + 1) _ _ _ _ (v5 + 1) t22 a5 (by omega) K22)
theorem pk_best (g : Int32) {t : Sg} (B : BdK t) : PQ (f_X12_best g t) (fun _ t' => PK t t') := by
  unfold f_X12_best
  refine pq_b (from_m g 1 999 t) (fun r1 t2 k => ?_)
  obtain ⟨et, -⟩ := k
  subst et
  exact pq_if (fun _ => pk_rf pk_r 1) (fun _ => pq_b (ft_X12_setOf 0 t2) (fun r5 t6 f => pk_b32 B BIG 0 _ _ _ _ 0 t6 rfl (by decide) (pk_f pk_r f rfl rfl)))
/-! what is kept aside and taken back -/
def SvW (t0 t : Sg) : Prop := (∀ k, k < 110 → t.1 1 (2400 + k) = t0.1 1 k) ∧ t.1 0 24 = t0.1 0 24
theorem svk_b2 {t0 : Sg} (m : Nat) : ∀ (i : Nat) (v : Int32) (t : Sg), v.toInt = (i : Int) → i ≤ 110 → (∀ k, k < i → t.1 1 (2400 + k) = t0.1 1 k) → (∀ p, p < 2400 → t.1 1 p = t0.1 1 p) → (∀ c, ¬ c = 1 → t.1 c = t0.1 c) → t.2 = t0.2 → PQ (f_X12_keepsAll_b2 m v t) (fun _ t' => SvW t0 t' ∧ (∀ p, p < 2400 → t'.1 1 p = t0.1 1 p) ∧ (∀ c, ¬ c = 1 → t'.1 c = t0.1 c) ∧ t'.2 = t0.2) := by
  induction m with
  | zero => intro i v t _ _ _ _ _ _ r t' z; cases z
  | succ m ih =>
    intro i v t hv hi h1 h2 h3 h4
    have e1 : (1 : Int32).toInt = 1 := rfl
    have e110 : (110 : Int32).toInt = 110 := rfl
    have e2400 : (2400 : Int32).toInt = 2400 := rfl
    unfold f_X12_keepsAll_b2
    refine pq_if (fun c => pq_s ⟨⟨fun k hk => h1 k ?_, by rw [h3 0 (by decide)]⟩, h2, h3, h4⟩) (fun c => pq_c (fun _ => pq_c (fun _ => pq_n (fun t3 e => ?_))))
    · have c := i_le c
      omega
    · have c := i_nle c
      rw [cl_h hv, show (2400 + v).toNatClampNeg = 2400 + i from cl_h (by rw [i_addx _ _ (by omega)]; omega)] at e
      refine ih (i + 1) (v + 1) t3 (by rw [i_addx _ _ (by omega)]; omega) (by omega) (fun k hk => ?_) (fun p hp => ?_) (fun c hc => ?_) ?_
      · rw [e, pI_1]
        by_cases z : k = i
        · rw [if_pos ⟨rfl, by omega⟩, h2 i (by omega), z]
        · rw [if_neg (fun y => z (by have := y.2; omega))]
          exact h1 k (by omega)
      · rw [e, pI_1, if_neg (fun y => by have := y.2; omega)]
        exact h2 p hp
      · rw [e, pI_o _ _ _ _ _ hc]
        exact h3 c hc
      · rw [e]
        exact h4
theorem sv_k (t : Sg) : PQ (f_X12_keepsAll t) (fun _ t' => SvW t t' ∧ (∀ p, p < 2400 → t'.1 1 p = t.1 1 p) ∧ (∀ c, ¬ c = 1 → t'.1 c = t.1 c) ∧ t'.2 = t.2) := by
  unfold f_X12_keepsAll
  exact svk_b2 BIG 0 0 t rfl (by decide) (fun k hk => absurd hk (Nat.not_lt_zero k)) (fun _ _ => rfl) (fun _ _ => rfl) rfl
theorem svt_b2 {t0 : Sg} (m : Nat) : ∀ (i : Nat) (v : Int32) (t : Sg), v.toInt = (i : Int) → i ≤ 110 → (∀ k, k < i → t.1 1 k = t0.1 1 (2400 + k)) → (∀ p, 110 ≤ p → t.1 1 p = t0.1 1 p) → (∀ c, ¬ c = 1 → t.1 c = t0.1 c) → t.2 = t0.2 → PQ (f_X12_takesBack_b2 m v t) (fun _ t' => (∀ k, k < 110 → t'.1 1 k = t0.1 1 (2400 + k)) ∧ (∀ p, 110 ≤ p → t'.1 1 p = t0.1 1 p) ∧ (∀ c, ¬ c = 1 → t'.1 c = t0.1 c) ∧ t'.2 = t0.2) := by
  induction m with
  | zero => intro i v t _ _ _ _ _ _ r t' z; cases z
  | succ m ih =>
    intro i v t hv hi h1 h2 h3 h4
    have e1 : (1 : Int32).toInt = 1 := rfl
    have e110 : (110 : Int32).toInt = 110 := rfl
    have e2400 : (2400 : Int32).toInt = 2400 := rfl
    unfold f_X12_takesBack_b2
    refine pq_if (fun c => pq_s ⟨fun k hk => h1 k ?_, h2, h3, h4⟩) (fun c => pq_c (fun _ => pq_c (fun _ => pq_n (fun t3 e => ?_))))
    · have c := i_le c
      omega
    · have c := i_nle c
      rw [cl_h hv, show (2400 + v).toNatClampNeg = 2400 + i from cl_h (by rw [i_addx _ _ (by omega)]; omega)] at e
      refine ih (i + 1) (v + 1) t3 (by rw [i_addx _ _ (by omega)]; omega) (by omega) (fun k hk => ?_) (fun p hp => ?_) (fun c hc => ?_) ?_
      · rw [e, pI_1]
        by_cases z : k = i
        · rw [if_pos ⟨rfl, z⟩, h2 (2400 + i) (by omega), z]
        · rw [if_neg (fun y => z y.2)]
          exact h1 k (by omega)
      · rw [e, pI_1, if_neg (fun y => by have := y.2; omega)]
        exact h2 p hp
      · rw [e, pI_o _ _ _ _ _ hc]
        exact h3 c hc
      · rw [e]
        exact h4
theorem sv_t (t : Sg) : PQ (f_X12_takesBack t) (fun _ t' => (∀ k, k < 110 → t'.1 1 k = t.1 1 (2400 + k)) ∧ (∀ p, 110 ≤ p → t'.1 1 p = t.1 1 p) ∧ (∀ c, ¬ c = 1 → t'.1 c = t.1 c) ∧ t'.2 = t.2) := by
  unfold f_X12_takesBack
  exact svt_b2 BIG 0 0 t rfl (by decide) (fun k hk => absurd hk (Nat.not_lt_zero k)) (fun _ _ => rfl) (fun _ _ => rfl) rfl
/-- kept aside, and the plan still there -/
def SvP (t0 t : Sg) : Prop := SvW t0 t ∧ BdK t
theorem svp_night {t0 t : Sg} (h : SvP t0 t) : PQ (f_X12_nightGoes t) (fun _ t' => SvP t0 t') := pq_w (kl_night h.2) (fun _ t' k => ⟨⟨fun p hp => (k.2.1 _ (Or.inl (by omega))).trans (h.1.1 p hp), (k.2.2.2.1 24 (by decide) (by decide)).trans h.1.2⟩, bdk_k h.2 k⟩)
theorem svp_k {t : Sg} (B : BdK t) : PQ (f_X12_keepsAll t) (fun _ t' => SvP t t') := pq_w (sv_k t) (fun _ t' g => ⟨g.1, bd_x B (fun p hp => g.2.1 p (by have := (plp_lt hp).1; omega)) g.1.2⟩)
theorem svp_f {L : Nat} {t0 t t' : Sg} (h : SvP t0 t) (f : Fr cdN L t t') (e1 : L.testBit 1 = false) (e2 : L.testBit 44 = false) : SvP t0 t' :=
  ⟨⟨fun k hk => (fr_e f 1 _ 1 rfl e1).trans (h.1.1 k hk), (fr_e f 0 24 44 rfl e2).trans h.1.2⟩, bd_x h.2 (fun p _ => fr_e f 1 p 1 rfl e1) (fr_e f 0 24 44 rfl e2)⟩
def RsM (t0 t : Sg) : Prop := (∀ p, p < 110 → t.1 1 p = t0.1 1 p) ∧ t.1 0 24 = t0.1 0 24
theorem rs_2 {t0 t : Sg} {v : Int32} (h : RsM t0 t) : RsM t0 (pI t 0 2 v) := ⟨fun p hp => by rw [q_nc rfl]; exact h.1 p hp, by rw [q_ne rfl]; exact h.2⟩
theorem rs_t {t0 t : Sg} (h : SvW t0 t) : PQ (f_X12_takesBack t) (fun _ t' => RsM t0 t') := pq_w (sv_t t) (fun _ t' g => ⟨fun p hp => (g.1 p hp).trans (h.1 p hp), by rw [g.2.2.1 0 (by decide)]; exact h.2⟩)
theorem rs_rf {t0 t : Sg} (h : RsM t0 t) (w : Int32) : PQ (bd (f_X12_refuse w t) (fun r t => some (r, t))) (fun _ t' => RsM t0 t') := by
  have q : PQ (some ((-1 : Int32), pI t 0 2 w)) (fun _ t' => RsM t0 t') := pq_s (rs_2 h)
  exact q
theorem rs_gv {t0 t : Sg} (h : RsM t0 t) (v : Int32) : PQ (bd (f_X12_gives v t) (fun r t => some (r, t))) (fun _ t' => RsM t0 t') := by
  have q : PQ (some (v, pI t 0 2 0)) (fun _ t' => RsM t0 t') := pq_s (rs_2 h)
  exact q
theorem rs_is {t0 t : Sg} (h : RsM t0 t) (w : Int32) : PQ (bd (f_X12_is w t) (fun r t => ck (r = 0 ∨ r = 1) (some (r, t)))) (fun _ t' => RsM t0 t') := by
  unfold f_X12_is
  exact pq_b (P := fun _ t' => RsM t0 t') (pq_if (fun _ => pq_s (rs_2 h)) (fun _ => pq_s (rs_2 h))) (fun r t' g => pq_c (fun _ => pq_s g))
theorem rs_r {t : Sg} : RsM t t := ⟨fun _ _ => rfl, rfl⟩
theorem rs_e {t0 t t' : Sg} (h : SvP t0 t) (e : t' = t) : SvP t0 t' := by rw [e]; exact h
theorem rs_51 {t0 : Sg} (m : Nat) : ∀ (v1 v2 v3 v5 : Int32) (t : Sg), SvP t0 t → PQ (f_X12_forecast_b51 m v1 v2 v3 v5 t) (fun _ t' => RsM t0 t') := by
  induction m with
  | zero => intro v1 v2 v3 v5 t _ r t' z; cases z
  | succ m ih =>
    intro v1 v2 v3 v5 t h
    unfold f_X12_forecast_b51
    refine pq_if (fun _ => pq_b (hr_p v1 t) (fun r5 t6 k => pq_c (fun _ => pq_n (fun x8 _ => pq_b (rs_t (rs_e h k.1).1) (fun _ t10 g => rs_gv g x8))))) (fun _ => pq_b (svp_night h) (fun _ t14 g => ih v1 v2 v3 (v5 + 1) t14 g))
theorem rs_forecast (a b c : Int32) {t : Sg} (B : BdK t) : PQ (f_X12_forecast a b c t) (fun _ t' => RsM t t') := by
  have fin : ∀ r, PQ (f_X12_forecast_b30 a b c r t) (fun _ t' => RsM t t') := fun r => by
    unfold f_X12_forecast_b30
    exact pq_if (fun _ => pq_b (svp_k B) (fun _ t4 g => rs_51 BIG a b c 0 t4 g)) (fun _ => rs_rf rs_r r)
  unfold f_X12_forecast
  refine pq_b (from_m b 0 60 t) (fun r1 t2 k => ?_)
  obtain ⟨et, -⟩ := k
  subst et
  refine pq_if (fun _ => fin 1) (fun _ => pq_if (fun _ => fin 1) (fun _ => pq_if (fun _ => pq_b (wrong_m a B.1.2) (fun r t3 k => ?_)) (fun _ => fin 1)))
  obtain ⟨et, -⟩ := k
  subst et
  exact fin r
theorem rs_20 {t0 : Sg} (v1 : Int32) (m : Nat) : ∀ (v2 : Int32) (t : Sg), SvP t0 t → PQ (f_X12_soonest_b20 m v1 v2 t) (fun _ t' => RsM t0 t') := by
  induction m with
  | zero => intro v2 t _ r t' z; cases z
  | succ m ih =>
    intro v2 t h
    have fin : ∀ t1, SvP t0 t1 → PQ (f_X12_soonest_b50 v2 t1) (fun _ t' => RsM t0 t') := fun t1 h1 => by
      unfold f_X12_soonest_b50
      exact pq_b (rs_t h1.1) (fun _ t8 g => pq_if (fun _ => rs_rf g 6) (fun _ => rs_gv g v2))
    unfold f_X12_soonest_b20
    exact pq_if (fun _ => fin t h) (fun _ => pq_b (qrow_p v1 t) (fun r13 t14 k => pq_c (fun _ => pq_if (fun _ => pq_b (svp_night (rs_e h k.1)) (fun _ t17 g => ih (v2 + 1) t17 g)) (fun _ => fin t14 (rs_e h k.1)))))
theorem rs_soonest (a : Int32) {t : Sg} (B : BdK t) : PQ (f_X12_soonest a t) (fun _ t' => RsM t t') := by
  unfold f_X12_soonest
  refine pq_b (ft_X12_isQuarrel a t) (fun r1 t2 f => ?_)
  have p2 : RsM t t2 := ⟨fun p _ => fr_e f 1 p 1 rfl rfl, fr_e f 0 24 44 rfl rfl⟩
  have B2 : BdK t2 := bd_x B (fun p _ => fr_e f 1 p 1 rfl rfl) p2.2
  refine pq_if (fun _ => rs_rf p2 1) (fun _ => pq_w (pq_b (svp_k B2) (fun _ t6 g => rs_20 a BIG 0 t6 g)) (fun _ t' g => ⟨fun p hp => (g.1 p hp).trans (p2.1 p hp), g.2.trans p2.2⟩))
theorem rs_22 {t0 : Sg} (v1 : Int32) (m : Nat) : ∀ (v2 : Int32) (t : Sg), SvP t0 t → PQ (f_X12_thaw_b22 m v1 v2 t) (fun _ t' => RsM t0 t') := by
  induction m with
  | zero => intro v2 t _ r t' z; cases z
  | succ m ih =>
    intro v2 t h
    have fin : ∀ t1, SvP t0 t1 → PQ (f_X12_thaw_b52 v2 t1) (fun _ t' => RsM t0 t') := fun t1 h1 => by
      unfold f_X12_thaw_b52
      exact pq_b (rs_t h1.1) (fun _ t8 g => pq_if (fun _ => rs_rf g 6) (fun _ => rs_gv g v2))
    unfold f_X12_thaw_b22
    exact pq_if (fun _ => fin t h) (fun _ => pq_b (hr_p v1 t) (fun r13 t14 k => pq_c (fun _ => pq_if (fun _ => fin t14 (rs_e h k.1)) (fun _ => pq_b (svp_night (rs_e h k.1)) (fun _ t17 g => ih (v2 + 1) t17 g)))))
theorem rs_thaw (a : Int32) {t : Sg} (B : BdK t) : PQ (f_X12_thaw a t) (fun _ t' => RsM t t') := by
  unfold f_X12_thaw
  refine pq_b (wrong_m a B.1.2) (fun r t3 k => ?_)
  obtain ⟨et, -⟩ := k
  subst et
  exact pq_if (fun _ => pq_b (svp_k B) (fun _ t4 g => rs_22 a BIG 0 t4 g)) (fun _ => rs_rf rs_r r)
theorem rs_6 {t0 : Sg} (m : Nat) : ∀ (v2 : Int32) (t : Sg), SvP t0 t → PQ (f_X12_thawAll_b6 m v2 t) (fun _ t' => RsM t0 t') := by
  induction m with
  | zero => intro v2 t _ r t' z; cases z
  | succ m ih =>
    intro v2 t h
    have fin : ∀ t1, SvP t0 t1 → PQ (f_X12_thawAll_b29 v2 t1) (fun _ t' => RsM t0 t') := fun t1 h1 => by
      unfold f_X12_thawAll_b29
      exact pq_b (rs_t h1.1) (fun _ t8 g => pq_if (fun _ => rs_rf g 6) (fun _ => rs_gv g v2))
    unfold f_X12_thawAll_b6
    exact pq_if (fun _ => fin t h) (fun _ => pq_b (ft_X12_isSnow t) (fun r13 t14 f => pq_if (fun _ => fin t14 (svp_f h f rfl rfl)) (fun _ => pq_b (svp_night (svp_f h f rfl rfl)) (fun _ t17 g => ih (v2 + 1) t17 g))))
theorem rs_thawAll {t : Sg} (B : BdK t) : PQ (f_X12_thawAll t) (fun _ t' => RsM t t') := by
  unfold f_X12_thawAll
  exact pq_b (svp_k B) (fun _ t4 g => rs_6 BIG 0 t4 g)
theorem e24_freed (a : Int32) (t : Sg) : PQ (f_X12_freed a t) (fun _ t' => t'.1 0 24 = -1 ∨ t'.1 0 24 = t.1 0 24) := by
  unfold f_X12_freed
  refine pq_b (ft_X12_isQuarrel a t) (fun r1 t2 f => pq_if (fun _ => ?_) (fun _ => pq_b (ft_X12_setOf 0 t2) (fun r5 t6 f6 => pq_b (ft_X12_setOf 0 _) (fun r7 t8 f8 => ?_))))
  · have q : PQ (some ((-1 : Int32), pI t2 0 2 1)) (fun _ t' => t'.1 0 24 = -1 ∨ t'.1 0 24 = t.1 0 24) := pq_s (Or.inr ((q_ne rfl).trans (fr_e f 0 24 44 rfl rfl)))
    exact q
  · have q : ∀ v : Int32, PQ (some (v, pI (pI t8 0 24 (-1)) 0 2 0)) (fun _ t' => t'.1 0 24 = -1 ∨ t'.1 0 24 = t.1 0 24) := fun v => pq_s (Or.inl ((q_ne rfl).trans q_eq))
    exact q _
/-! days lived: the plan stays -/
/-- rows whose houses and grocers are such -/
def RwP (t : Sg) : Prop := ∀ p : Nat, 110 ≤ p → (p - 110) % 6 = 0 → (p : Int) < 110 + 6 * (t.1 1 11).toInt → ((t.1 1 p).toInt = 19 ∨ (t.1 1 p).toInt = 20 ∨ (t.1 1 p).toInt = 21 → 0 ≤ (t.1 1 (p + 1)).toInt ∧ (t.1 1 (p + 1)).toInt ≤ 7) ∧ ((t.1 1 p).toInt = 20 → 0 ≤ (t.1 1 (p + 3)).toInt ∧ (t.1 1 (p + 3)).toInt ≤ 3)
theorem rwp_of {t : Sg} (hR : Rg rM t) (h : RowM t) : RwP t := fun p h1 h2 h3 => by
  have w := h p h1 h2 h3
  have r11 : -1 ≤ (t.1 1 11).toInt ∧ (t.1 1 11).toInt ≤ 60 := hR 1 11
  refine ⟨fun z => w.1 (by rcases z with z | z | z; exact Or.inl z; exact Or.inr (Or.inl z); exact Or.inr (Or.inr (Or.inl z))), fun z => ⟨w.2 z, ?_⟩⟩
  have q := (hR 1 (p + 3)).2
  have e : rM 1 (p + 3) = rS (p + 3) := by
    show rS ((p + 3) % 480) = _
    rw [Nat.mod_eq_of_lt (by omega)]
  rw [e, rS_tri (by omega)] at q
  exact q
theorem pk_does {t0 t : Sg} (B : BdK t) (W : RwP t) (K : PK t0 t) {a : Int32} {k : Nat} (ha : a.toInt = ((110 + 6 * k : Nat) : Int)) (hk : k ≤ 60) (hl : (k : Int) < (t.1 1 11).toInt) : PQ (f_X12_does a t) (fun _ t' => PK t0 t') := by
  have e1 : (1 : Int32).toInt = 1 := rfl
  have e2 : (2 : Int32).toInt = 2 := rfl
  have e3 : (3 : Int32).toInt = 3 := rfl
  have w := W (110 + 6 * k) (by omega) (by omega) (by omega)
  have d0 : a.toNatClampNeg = 110 + 6 * k := cl_h ha
  have d1 : (a + 1).toNatClampNeg = 110 + 6 * k + 1 := cl_h (by rw [i_addx _ _ (by omega)]; omega)
  have d3 : (a + 3).toNatClampNeg = 110 + 6 * k + 3 := cl_h (by rw [i_addx _ _ (by omega)]; omega)
  unfold f_X12_does
  have st : PQ (some ((1 : Int32), t)) (fun _ t' => PK t0 t') := pq_s K
  refine pq_c (fun _ => pq_n (fun x2 f2 => pq_c (fun _ => pq_n (fun x4 _ => pq_c (fun _ => ?_)))))
  rw [d0]
  rw [d1] at f2
  generalize t.1 1 (110 + 6 * k) = x0 at w ⊢
  refine pq_if (fun _ => ?_) (fun _ => ?_)
  · refine pq_b (ft_X12_draw t) (fun r6 t7 f => ?_)
    have K7 : PK t0 t7 := pk_f K f rfl rfl
    have B7 : BdK t7 := bd_x B (fun p _ => fr_e f 1 p 1 rfl rfl) (fr_e f 0 24 44 rfl rfl)
    unfold f_X12_rains
    exact pq_if (fun _ => pq_b (kl_rains (w := true) B7 BIG 0 0 0 t7 rfl (by decide) kl_r) (fun r8 t9 k => pq_s (pk_o (pk_kl K7 k) (by decide) (fun z => absurd z (by decide))))) (fun _ => pq_s K7)
  refine pq_if (fun _ => st) (fun _ => ?_)
  refine pq_if (fun _ => st) (fun _ => ?_)
  refine pq_if (fun _ => st) (fun _ => ?_)
  refine pq_if (fun _ => st) (fun _ => ?_)
  refine pq_if (fun _ => st) (fun _ => ?_)
  refine pq_if (fun _ => st) (fun _ => ?_)
  refine pq_if (fun _ => st) (fun _ => ?_)
  refine pq_if (fun _ => st) (fun _ => ?_)
  refine pq_if (fun _ => st) (fun _ => ?_)
  refine pq_if (fun _ => st) (fun _ => ?_)
  refine pq_if (fun _ => st) (fun _ => ?_)
  refine pq_if (fun _ => st) (fun _ => ?_)
  refine pq_if (fun _ => st) (fun _ => ?_)
  refine pq_if (fun _ => st) (fun _ => ?_)
  refine pq_if (fun c => ?_) (fun _ => ?_)
  · have v := w.1 (Or.inl (by rw [c]; rfl))
    have hn : x2.toInt = (x2.toInt.toNat : Int) := by rw [f2]; omega
    have h8 : x2.toInt.toNat < 8 := by rw [f2]; omega
    refine pq_b (room_m hn h8 x4 t) (fun r10 t11 g => ?_)
    obtain ⟨et, -⟩ := g
    subst et
    exact pq_if (fun _ => pq_s K) (fun _ => pq_b (kl_strews (w := true) kl_r hn h8 x4) (fun _ t13 g => pq_s (pk_kl K g)))
  refine pq_if (fun c => ?_) (fun _ => ?_)
  · have v := w.1 (Or.inr (Or.inl (by rw [c]; rfl)))
    have u := w.2 (by rw [c]; rfl)
    have hn : x2.toInt = (x2.toInt.toNat : Int) := by rw [f2]; omega
    have h8 : x2.toInt.toNat < 8 := by rw [f2]; omega
    refine pq_b (room_m hn h8 x4 t) (fun r10 t11 g => ?_)
    obtain ⟨et, -⟩ := g
    subst et
    refine pq_if (fun _ => pq_s K) (fun _ => pq_c (fun _ => pq_c (fun _ => pq_if (fun _ => ?_) (fun _ => pq_s K))))
    rw [d3]
    exact pq_b (kl_buys (w := true) kl_r (g := (t11.1 1 (110 + 6 * k + 3)).toInt.toNat) (by omega) (by omega) hn h8 x4) (fun _ t13 g => pq_s (pk_kl K g))
  refine pq_if (fun c => ?_) (fun _ => ?_)
  · have v := w.1 (Or.inr (Or.inr (by rw [c]; rfl)))
    have hn : x2.toInt = (x2.toInt.toNat : Int) := by rw [f2]; omega
    have h8 : x2.toInt.toNat < 8 := by rw [f2]; omega
    exact pq_b (kl_sweeps (w := true) kl_r hn h8) (fun r t13 g => pq_if (fun _ => pq_s (pk_kl K g)) (fun _ => pq_s (pk_kl K g)))
  refine pq_if (fun c => ?_) (fun _ => ?_)
  · unfold f_X12_snows
    exact pq_b (kl_snows (w := true) B x2 BIG 0 0 t rfl (by decide) kl_r) (fun r t13 g => pq_s (pk_kl K g))
  refine pq_if (fun c => ?_) (fun _ => st)
  refine pq_if (fun _ => pq_s K) (fun _ => pq_b (kl_night B) (fun _ t25 g => pq_n (fun t26 e26 => pq_n (fun t27 e27 => pq_s ?_))))
  rw [e27, e26]
  exact pk_o (pk_o (pk_kl K g) (by decide) (fun z => absurd z (by decide))) (by decide) (fun z => absurd z (by decide))
def RwQ (t : Sg) : Prop := RwP t ∧ (t.1 1 11).toInt ≤ 60 ∧ ∀ k : Nat, (k : Int) < (t.1 1 11).toInt → 0 ≤ (t.1 1 (110 + 6 * k + 4)).toInt ∧ (t.1 1 (110 + 6 * k + 4)).toInt ≤ 59
theorem rwq_of {t : Sg} (hR : Rg rM t) (h : RowM t) : RwQ t := by
  have r11 : -1 ≤ (t.1 1 11).toInt ∧ (t.1 1 11).toInt ≤ 60 := hR 1 11
  refine ⟨rwp_of hR h, r11.2, fun k hk => ?_⟩
  have q := hR 1 (110 + 6 * k + 4)
  have e : rM 1 (110 + 6 * k + 4) = (0, 59) := by
    show rS ((110 + 6 * k + 4) % 480) = _
    rw [Nat.mod_eq_of_lt (by omega)]
    unfold rS
    rw [if_neg (by omega), if_neg (by omega), if_neg (by omega), if_neg (by omega), if_neg (by omega), if_neg (by omega), if_neg (by omega), if_pos (by omega), if_pos (by omega)]
  rw [e] at q
  exact q
theorem rwq_x {t0 t : Sg} (h : RwQ t0) (k : ∀ p, ((110 ≤ p ∧ p < 2400) ∨ p = 11) → t.1 1 p = t0.1 1 p) : RwQ t := by
  have e := k 11 (Or.inr rfl)
  have r := h.2.1
  refine ⟨fun p h1 h2 h3 => ?_, by rw [e]; exact h.2.1, fun j hj => ?_⟩
  · rw [e] at h3
    rw [k p (Or.inl (by omega)), k (p + 1) (Or.inl (by omega)), k (p + 3) (Or.inl (by omega))]
    exact h.1 p h1 h2 h3
  · rw [e] at hj
    rw [k _ (Or.inl (by omega))]
    exact h.2.2 j hj
theorem rwq_k {t0 t : Sg} (h : RwQ t0) (k : PK t0 t) : RwQ t := rwq_x h (fun p hp => k.1 p (hp.elim (fun z => Or.inl z.1) (fun z => Or.inr (Or.inr z))))
def PqO {α : Type} (t0 : Sg) (k : Int32 → Sg → Option (α × Sg)) (Q : α → Sg → Prop) : Prop := ∀ v t, PK t0 t → 0 ≤ v.toInt ∧ v.toInt ≤ 60 → PQ (k v t) Q
def RbQ (t0 : Sg) : Int32 → Sg → Prop := fun r t' => PK t0 t' ∧ 0 ≤ r.toInt ∧ r.toInt ≤ 60
theorem be_76 {t0 : Sg} {k : Int32 → Sg → Option (Int32 × Sg)} (hk : PqO t0 k (RbQ t0)) (v2 v3 x : Int32) {t : Sg} (K : PK t0 t) (h2 : 0 ≤ v2.toInt ∧ v2.toInt ≤ 59) (h3 : 0 ≤ v3.toInt ∧ v3.toInt ≤ 59) : PQ (f_X12_behindEnds_b76 k v2 v3 x t) (RbQ t0) := by
  have e1 : (1 : Int32).toInt = 1 := rfl
  have n2 : (v2 + 1).toInt = v2.toInt + 1 := by rw [i_addx _ _ (by omega)]; omega
  have n3 : (v3 + 1).toInt = v3.toInt + 1 := by rw [i_addx _ _ (by omega)]; omega
  have b : ∀ x0 x1, PQ (f_X12_behindEnds_b95 k v2 v3 x x0 x1 v3 t) (RbQ t0) := fun x0 x1 => by
    unfold f_X12_behindEnds_b95
    refine pq_c (fun _ => pq_n (fun t8 e8 => ?_))
    have K8 : PK t0 t8 := by rw [e8]; exact pk_o K (by decide) (fun z => absurd z (by decide))
    exact pq_if (fun _ => hk _ t8 K8 (by omega)) (fun _ => hk _ t8 K8 (by omega))
  unfold f_X12_behindEnds_b76
  exact pq_c (fun _ => pq_if (fun _ => by rename_i c; rw [c] at b ⊢; exact b _ _) (fun _ => b _ _))
theorem be_2 {t0 : Sg} (W : RwQ t0) (m : Nat) : PqO t0 (f_X12_behindEnds_b2 m) (RbQ t0) := by
  induction m with
  | zero => intro v t _ _ r t' z; cases z
  | succ m ih =>
    intro v2 t K hv
    have e4 : (4 : Int32).toInt = 4 := rfl
    have e6 : (6 : Int32).toInt = 6 := rfl
    have e110 : (110 : Int32).toInt = 110 := rfl
    have e11 := K.1 11 (Or.inr (Or.inr rfl))
    have w1 := W.2.1
    unfold f_X12_behindEnds_b2
    refine pq_if (fun _ => pq_s ⟨K, hv⟩) (fun c => pq_c (fun _ => pq_if (fun _ => pq_c (fun _ => pq_n (fun x3 f3 => ?_))) (fun _ => pq_s ⟨K, hv⟩)))
    have c := i_nle c
    rw [e11] at c
    have m6 : (6 * v2).toInt = 6 * v2.toInt := i_mulx 6 v2 (show -2147483648 ≤ 6 * v2.toInt ∧ 6 * v2.toInt ≤ 2147483647 from by omega)
    have x1 : (110 + 6 * v2).toInt = 110 + 6 * v2.toInt := by rw [i_addx _ _ (by omega)]; omega
    have d4 : ((110 + 6 * v2) + 4).toNatClampNeg = 110 + 6 * v2.toInt.toNat + 4 := cl_h (by rw [i_addx _ _ (by omega)]; omega)
    rw [d4, K.1 _ (Or.inl (by omega))] at f3
    have r3 := W.2.2 v2.toInt.toNat (by omega)
    rw [← f3] at r3
    have b : ∀ x, PQ (f_X12_behindEnds_b76 (f_X12_behindEnds_b2 m) v2 x3 x t) (RbQ t0) := fun x => be_76 ih v2 x3 x K (by omega) r3
    exact pq_c (fun _ => pq_if (fun _ => pq_c (fun _ => pq_if (fun _ => b 0) (fun _ => b 1))) (fun _ => b 0))
theorem be_p {t0 : Sg} (W : RwQ t0) (v : Int32) {t : Sg} (K : PK t0 t) (h : 0 ≤ v.toInt ∧ v.toInt ≤ 60) : PQ (f_X12_behindEnds v t) (RbQ t0) := by
  unfold f_X12_behindEnds
  exact be_2 W BIG v t K h
theorem pk_140 {t0 : Sg} (W : RwQ t0) {k : Int32 → Sg → Option (Unit × Sg)} (hk : PqO t0 k (fun _ t' => PK t0 t')) (v2 v3 : Int32) (t : Sg) (K : PK t0 t) (h : 0 ≤ v2.toInt ∧ v2.toInt < (t0.1 1 11).toInt) (h3 : v3.toInt = 110 + 6 * v2.toInt) : PQ (f_X12_lives_b140 k v2 v3 t) (fun _ t' => PK t0 t') := by
  have e1 : (1 : Int32).toInt = 1 := rfl
  have e4 : (4 : Int32).toInt = 4 := rfl
  have w1 := W.2.1
  have n2 : (v2 + 1).toInt = v2.toInt + 1 := by rw [i_addx _ _ (by omega)]; omega
  have d4 : (v3 + 4).toNatClampNeg = 110 + 6 * v2.toInt.toNat + 4 := cl_h (by rw [i_addx _ _ (by omega)]; omega)
  have r3 := W.2.2 v2.toInt.toNat (by omega)
  have go : ∀ v t1, PK t0 t1 → 0 ≤ v.toInt ∧ v.toInt ≤ 60 → PQ (bd (f_X12_behindEnds v t1) (fun r t12 => k r t12)) (fun _ t' => PK t0 t') := fun v t1 K1 hv => pq_b (be_p W v K1 hv) (fun r t12 g => hk r t12 g.1 g.2)
  unfold f_X12_lives_b140
  refine pq_c (fun _ => pq_if (fun _ => go _ t K (by omega)) (fun _ => pq_b (ft_X12_holds v3 t) (fun r13 t14 f => ?_)))
  have K14 : PK t0 t14 := pk_f K f rfl rfl
  refine pq_if (fun _ => pq_c (fun _ => go _ t14 K14 ?_)) (fun _ => go _ t14 K14 (by omega))
  rw [d4, K14.1 _ (Or.inl (by omega)), i_addx _ _ (by omega)]
  omega
theorem pk_111 {t0 : Sg} (W : RwQ t0) {k : Int32 → Sg → Option (Unit × Sg)} (hk : PqO t0 k (fun _ t' => PK t0 t')) (v2 v3 a b c : Int32) (t : Sg) (K : PK t0 t) (h : 0 ≤ v2.toInt ∧ v2.toInt < (t0.1 1 11).toInt) (h3 : v3.toInt = 110 + 6 * v2.toInt) : PQ (f_X12_lives_b111 k v2 v3 a b c t) (fun _ t' => PK t0 t') := by
  unfold f_X12_lives_b111
  refine pq_c (fun _ => pq_n (fun t5 e5 => ?_))
  have K5 : PK t0 t5 := by rw [e5]; exact pk_o K (by decide) (fun z => absurd z (by decide))
  refine pq_c (fun _ => pq_if (fun _ => pq_c (fun _ => pq_c (fun _ => pq_n (fun t9 e9 => pk_140 W hk v2 v3 t9 ?_ h h3)))) (fun _ => pk_140 W hk v2 v3 t5 K5 h h3))
  rw [e9]
  exact pk_o K5 (by decide) (fun z => absurd z (by decide))
theorem pk_32 {t0 : Sg} (B : BdK t0) (W : RwQ t0) (m : Nat) : PqO t0 (f_X12_lives_b32 m) (fun _ t' => PK t0 t') := by
  induction m with
  | zero => intro v t _ _ r t' z; cases z
  | succ m ih =>
    intro v2 t K hv
    have e6 : (6 : Int32).toInt = 6 := rfl
    have e110 : (110 : Int32).toInt = 110 := rfl
    have e11 := K.1 11 (Or.inr (Or.inr rfl))
    have w1 := W.2.1
    have up : ∀ v, PK t0 (pI t 0 30 v) := fun v => pk_o K (by decide) (fun _ => by decide)
    unfold f_X12_lives_b32
    refine pq_if (fun _ => pq_s K) (fun c => pq_if (fun _ => pq_s (pk_o K (by decide) (fun z => absurd z (by decide)))) (fun _ => pq_c (fun _ => pq_if (fun _ => pq_s (up _)) (fun _ => ?_))))
    have c := i_nle c
    rw [e11] at c
    have m6 : (6 * v2).toInt = 6 * v2.toInt := i_mulx 6 v2 (show -2147483648 ≤ 6 * v2.toInt ∧ 6 * v2.toInt ≤ 2147483647 from by omega)
    have x1 : (110 + 6 * v2).toInt = 110 + 6 * v2.toInt := by rw [i_addx _ _ (by omega)]; omega
    have h2 : 0 ≤ v2.toInt ∧ v2.toInt < (t0.1 1 11).toInt := by omega
    have K1 := up ((t.1 0 30) + 1)
    refine pq_b (pk_does (bd_pk B K1) (rwq_k W K1).1 K1 (k := v2.toInt.toNat) (by omega) (by omega) (by rw [q_nc rfl, e11]; omega)) (fun r2 t3 K3 => ?_)
    exact pq_if (fun _ => pk_111 W ih _ _ _ _ _ t3 K3 h2 x1) (fun _ => pk_111 W ih _ _ _ _ _ t3 K3 h2 x1)
theorem pk_12 {t0 : Sg} (B : BdK t0) (W : RwQ t0) (m : Nat) : ∀ (v : Int32) (t : Sg), PK t0 t → PQ (f_X12_lives_b12 m v t) (fun _ t' => PK t0 t') := by
  induction m with
  | zero => intro v t _ r t' z; cases z
  | succ m ih =>
    intro v t K
    unfold f_X12_lives_b12
    exact pq_if (fun _ => pk_32 B W BIG 0 t K (by decide)) (fun _ => pq_c (fun _ => ih (v + 1) _ (pk_o K (by decide) (fun z => absurd z (by decide)))))
theorem pk_lives (a : Int32) {t0 t : Sg} (B : BdK t0) (W : RwQ t0) (K : PK t0 t) : PQ (f_X12_lives a t) (fun _ t' => PK t0 t') := by
  unfold f_X12_lives
  exact pk_12 B W BIG 0 _ (pk_o (pk_o K (by decide) (fun _ => by decide)) (by decide) (fun _ => by decide))
theorem pk_43 {t0 : Sg} (m : Nat) : ∀ (v : Int32) (t : Sg), PK t0 t → PQ (f_X12_live_b43 m v t) (fun _ t' => PK t0 t') := by
  induction m with
  | zero => intro v t _ r t' z; cases z
  | succ m ih =>
    intro v t K
    unfold f_X12_live_b43
    refine pq_if (fun _ => pk_gv (pk_o K (by decide) (fun _ => by decide)) _) (fun _ => pq_c (fun _ => pq_n (fun t12 e => ih (v + 1) t12 ?_)))
    rw [e]
    exact pk_o K (by decide) (fun z => absurd z (by decide))
theorem pk_live (a : Int32) {t : Sg} (B : BdK t) (W : RwQ t) : PQ (f_X12_live a t) (fun _ t' => PK t t') := by
  unfold f_X12_live
  refine pq_b (from_m a 0 9999 t) (fun r1 t2 k => ?_)
  obtain ⟨et, -⟩ := k
  subst et
  exact pq_if (fun _ => pk_rf pk_r 1) (fun _ => pq_if (fun _ => pk_rf pk_r 6) (fun _ => pq_b (pk_lives a B W pk_r) (fun _ t8 K => pk_43 BIG 0 t8 K)))
/-- odds: what is lived is taken back -/
def SvD (t0 t : Sg) : Prop := SvW t0 t ∧ ∀ p, ((110 ≤ p ∧ p < 2400) ∨ PlP p ∨ p = 11) → t.1 1 p = t0.1 1 p
theorem svd_lives (a : Int32) {t0 t : Sg} (B : BdK t0) (W : RwQ t0) (h : SvD t0 t) : PQ (f_X12_lives a t) (fun _ t' => SvD t0 t') :=
  pq_w (pk_lives a (bd_x B (fun p hp => h.2 p (Or.inr (Or.inl hp))) h.1.2) (rwq_x W (fun p hp => h.2 p (hp.elim Or.inl (fun z => Or.inr (Or.inr z))))) pk_r) (fun _ t' k => ⟨⟨fun p hp => (k.1 _ (Or.inl (by omega))).trans (h.1.1 p hp), k.2.trans h.1.2⟩, fun p hp => (k.1 p (hp.elim (fun z => Or.inl z.1) Or.inr)).trans (h.2 p hp)⟩)
theorem svd_f {L : Nat} {t0 t t' : Sg} (h : SvD t0 t) (f : Fr cdN L t t') (e1 : L.testBit 1 = false) (e2 : L.testBit 44 = false) : SvD t0 t' :=
  ⟨⟨fun k hk => (fr_e f 1 _ 1 rfl e1).trans (h.1.1 k hk), (fr_e f 0 24 44 rfl e2).trans h.1.2⟩, fun p hp => (fr_e f 1 p 1 rfl e1).trans (h.2 p hp)⟩
theorem svd_t {t0 t : Sg} (h : SvD t0 t) : PQ (f_X12_takesBack t) (fun _ t' => SvD t0 t' ∧ RsM t0 t') := pq_w (sv_t t) (fun _ t' g => by
  have r : RsM t0 t' := ⟨fun p hp => (g.1 p hp).trans (h.1.1 p hp), by rw [g.2.2.1 0 (by decide)]; exact h.1.2⟩
  refine ⟨⟨⟨fun p hp => (g.2.1 _ (by omega)).trans (h.1.1 p hp), r.2⟩, fun p hp => ?_⟩, r⟩
  rcases hp with z | z | z
  · exact (g.2.1 p z.1).trans (h.2 p (Or.inl z))
  · exact r.1 p (plp_lt z).1
  · rw [z]
    exact r.1 11 (by decide))
theorem svd_k {t : Sg} : PQ (f_X12_keepsAll t) (fun _ t' => SvD t t' ∧ RsM t t') := pq_w (sv_k t) (fun _ t' g => ⟨⟨g.1, fun p hp => g.2.1 p (by
  rcases hp with z | z | z
  · exact z.2
  · have := (plp_lt z).1
    omega
  · omega)⟩, fun p hp => g.2.1 p (by omega), g.1.2⟩)
theorem rs_f {L : Nat} {t0 t t' : Sg} (h : RsM t0 t) (f : Fr cdN L t t') (e1 : L.testBit 1 = false) (e2 : L.testBit 44 = false) : RsM t0 t' := ⟨fun p hp => (fr_e f 1 p 1 rfl e1).trans (h.1 p hp), (fr_e f 0 24 44 rfl e2).trans h.2⟩
theorem rs_77 {t0 : Sg} (B : BdK t0) (W : RwQ t0) (v1 v2 v3 : Int32) (m : Nat) : ∀ (v4 v5 : Int32) (t : Sg), SvD t0 t → RsM t0 t → PQ (f_X12_odds_b77 m v1 v2 v3 v4 v5 t) (fun _ t' => RsM t0 t') := by
  induction m with
  | zero => intro v4 v5 t _ _ r t' z; cases z
  | succ m ih =>
    intro v4 v5 t h r
    unfold f_X12_odds_b77
    refine pq_if (fun _ => pq_b (ft_X12_tellsBy _ _ t) (fun r17 t18 f => pq_c (fun _ => pq_s (rs_f r f rfl rfl)))) (fun _ => pq_b (svd_lives _ B W h) (fun _ t20 h20 => pq_b (ft_X12_setOf 2 t20) (fun r21 t22 f => ?_)))
    have h22 := svd_f h20 f rfl rfl
    exact pq_if (fun _ => pq_b (svd_t h22) (fun _ t24 g => ih _ _ t24 g.1 g.2)) (fun _ => pq_b (svd_t h22) (fun _ t24 g => ih _ _ t24 g.1 g.2))
theorem rs_odds (a b c : Int32) {t : Sg} (B : BdK t) (W : RwQ t) : PQ (f_X12_odds a b c t) (fun _ t' => RsM t t') := by
  unfold f_X12_odds
  refine pq_b (ft_X12_isSetOf a t) (fun r1 t2 f => ?_)
  have p2 : RsM t t2 := rs_f rs_r f rfl rfl
  have B2 : BdK t2 := bd_x B (fun p _ => fr_e f 1 p 1 rfl rfl) p2.2
  have W2 : RwQ t2 := rwq_x W (fun p _ => fr_e f 1 p 1 rfl rfl)
  refine pq_if (fun _ => rs_is p2 1) (fun _ => pq_b (from_m b 0 9999 t2) (fun r5 t6 k => ?_))
  obtain ⟨et, -⟩ := k
  subst et
  refine pq_if (fun _ => rs_is p2 1) (fun _ => pq_b (from_m c 1 20 t6) (fun r9 t10 k => ?_))
  obtain ⟨et, -⟩ := k
  subst et
  refine pq_if (fun _ => rs_is p2 1) (fun _ => pq_if (fun _ => pq_if (fun _ => rs_is p2 6) (fun _ => pq_b svd_k (fun _ t16 g => ?_))) (fun _ => rs_is p2 1))
  exact pq_w (rs_77 B2 W2 a b c BIG 0 0 t16 g.1 g.2) (fun _ t' g => ⟨fun p hp => (g.1 p hp).trans (p2.1 p hp), g.2.trans p2.2⟩)
theorem pmk_k {L : Nat} {t t' : Sg} (K : PK t t') (f : Fr cdM L t t') (e : L.testBit 2 = false) : PmK t t' := ⟨fun k hk => K.1 k (plq hk), fun k _ => fm_2 f e k, K.2⟩
theorem pmk_s {L : Nat} {t t' : Sg} (K : RsM t t') (f : Fr cdM L t t') (e : L.testBit 2 = false) : PmK t t' := ⟨fun k hk => K.1 k (plp_lt hk).1, fun k _ => fm_2 f e k, K.2⟩
