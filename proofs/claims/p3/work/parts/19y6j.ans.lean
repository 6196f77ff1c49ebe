/-! found, odds -/
def An1C (r : Int32) (s : Sg) : Prop := r = 1 ∧ s.1 0 15 = 0
def An1M (r : Int32) (t : Sg) : Prop := r = 1 ∧ t.1 0 2 = 0
theorem aq_11 {oC oM : Option (Int32 × Sg)} (h : PQ oC An1C) (g : PQ oM An1M) : RQ oC oM AnQ := rq_pp h g (fun _ _ _ _ a b => ⟨a.1.trans b.1.symm, a.2.trans b.2.symm⟩)
theorem grt_1 (s : Sg) : PQ (bd (f_X11_granted s) (fun r s => ck (r = 0 ∨ r = 1) (some (r, s)))) An1C := by
  refine pq_b (P := An1C) ?_ (fun r s k => pq_c (fun _ => pq_s k))
  unfold f_X11_granted
  exact pq_s ⟨rfl, q_eq⟩
theorem is_1 (t : Sg) : PQ (f_X12_is 0 t) An1M := by
  unfold f_X12_is
  exact pq_if (fun _ => pq_s ⟨rfl, q_eq⟩) (fun c => absurd rfl c)
theorem tb_1 (m : Nat) : ∀ (v1 v3 v5 v7 : Int64) (t : Sg), PQ (f_X12_tellsBy_b6 m v1 v3 v5 v7 t) An1M := by
  induction m with
  | zero => intro v1 v3 v5 v7 t r t' z; cases z
  | succ m ih =>
    intro v1 v3 v5 v7 t
    unfold f_X12_tellsBy_b6
    exact pq_if (fun _ => pq_c (fun _ => pq_n (fun s2 _ => pq_b (is_1 s2) (fun r s k => pq_c (fun _ => pq_s k))))) (fun _ => pq_c (fun _ => ih _ _ _ _ t))
theorem tb_2 (a b : Int64) (t : Sg) : PQ (bd (f_X12_tellsBy a b t) (fun r t => ck (r = 0 ∨ r = 1) (some (r, t)))) An1M := by
  refine pq_b (P := An1M) ?_ (fun r s k => pq_c (fun _ => pq_s k))
  unfold f_X12_tellsBy
  exact tb_1 BIG a b a b t
theorem rf_2 (s t : Sg) {w : Int32} (hw : ¬ w = 0) : RQ (bd (f_X11_refused w s) (fun r s => ck (r = 0 ∨ r = 1) (some (r, s)))) (bd (f_X12_is w t) (fun r t => ck (r = 0 ∨ r = 1) (some (r, t)))) AnQ := by
  refine rq_bC (P := fun r s' => r = 0 ∧ s'.1 0 15 = w) (by unfold f_X11_refused; exact pq_s ⟨rfl, q_eq⟩) (fun r s' k => rq_bM (P := fun r t' => r = 0 ∧ t'.1 0 2 = w) (by unfold f_X12_is; rw [if_neg hw]; exact pq_s ⟨rfl, q_eq⟩) (fun r' t' l => rq_cC (fun _ => rq_cM (fun _ => rq_s ⟨k.1.trans l.1.symm, k.2.trans l.2.symm⟩))))
theorem found_q {s t : Sg} (H : NowG 0 s t) (a n : Int32) : RQ (f_X11_found a n s) (f_X12_found a n t) AnQ := by
  have P := H.1.1
  have b0 := P.2.1.1.2
  unfold f_X11_found f_X12_found
  refine rq_f (P := (1 : Int32).toInt ≤ n.toInt ∧ n.toInt ≤ (4 : Int32).toInt) (wi_p n 1 4 s) (from_m n 1 4 t) Iff.rfl (fun _ => ?_) (fun _ => ?_)
  · rw [if1]
    refine rq_wn (whyNo_c P a 1 (Or.inl ⟨rfl, trivial⟩)) (wrong_m a b0) ?_ (fun hh hg => ?_) (fun hh hg => ?_)
    · unfold f_X12_found_b21
      rw [if_neg (by decide), if_neg (by decide)]
      exact rf_2 s t (by decide)
    · unfold f_X12_found_b21
      rw [if_neg (by decide), if_neg (by decide)]
      exact rf_2 s t (by decide)
    · have hn := hs_n b0 hh
      unfold f_X12_found_b21
      rw [if_pos rfl, if_pos (show (0 : Int32) ≤ 0 by decide)]
      refine rq_v (ly_c H.1.2.1 hn.1 hn.2) (grains_m hn.1 hn.2 t) ?_
      refine rq_iC (fun c => rq_iM (fun _ => rf_2 s t (by decide)) (fun d => absurd c d)) (fun c => rq_iM (fun d => absurd d c) (fun _ => ?_))
      refine rq_bM (grains_m hn.1 hn.2 t) (fun r7 t8 l => ?_)
      rw [l.1, l.2]
      refine rq_iC (fun c => rq_iM (fun _ => ?_) (fun d => absurd c d)) (fun c => rq_iM (fun d => absurd d c) (fun _ => rf_2 s t (by decide)))
      refine aq_11 (pq_b (P := fun _ _ => True) pq_tr (fun r9 s10 _ => pq_c (fun _ => pq_b (P := fun _ _ => True) pq_tr (fun r12 s13 _ => pq_b (P := fun _ _ => True) pq_tr (fun _ s15 _ => grt_1 s15))))) ?_
      refine pq_b (P := fun _ _ => True) pq_tr (fun r9 t10 _ => pq_b (P := fun _ _ => True) pq_tr (fun r11 t12 _ => pq_b (P := fun _ _ => True) pq_tr (fun r13 t14 _ => pq_c (fun _ => pq_if (fun _ => ?_) (fun _ => tb_2 _ _ _)))))
      exact pq_b (P := fun _ _ => True) pq_tr (fun r16 t17 _ => pq_c (fun _ => pq_b (P := fun _ _ => True) pq_tr (fun r19 t20 _ => tb_2 _ _ _)))
  · rw [if0]
    unfold f_X12_found_b21
    refine rq_bC (whyNo_c P a 0 (Q := False) (Or.inr ⟨rfl, fun z => z⟩)) (fun r s3 k => ?_)
    obtain ⟨es, k⟩ := k
    subst es
    have k1 : r = 1 := by
      rcases k with k | k | k
      · exact k.1
      · exact k.2.1.2.elim
      · exact k.2.1.2.elim
    rw [k1, if_neg (by decide), if_neg (by decide)]
    exact rf_2 s3 t (by decide)
/-- the street in use and its program are the same -/
def EqP (s s' : Sg) : Prop := (∀ c, (c = 25 ∨ c = 27 ∨ (31 ≤ c ∧ c ≤ 50)) → s'.1 c = s.1 c) ∧ ∀ k, 5 ≤ k → k < 13 → s'.1 26 k = s.1 26 k
theorem eqp_t {s s' s'' : Sg} (h : EqP s s') (g : EqP s' s'') : EqP s s'' := ⟨fun c hc => (g.1 c hc).trans (h.1 c hc), fun k h1 h2 => (g.2 k h1 h2).trans (h.2 k h1 h2)⟩
theorem eqp_c {s s' : Sg} (c : CpS s s') : EqP s s' := ⟨fun k hk => c.1 k (by omega) (by omega), fun k _ _ => congrFun (c.1 26 (by decide) (by decide)) k⟩
theorem eqp_r (a : Int32) (s : Sg) : PQ (f_X3_run_25_53_27_5 a s) (fun _ s' => EqP s s') := by
  refine pq_w (fy_X3_run_25_53_27_5 a s) (fun _ s' f => ⟨fun c hc => funext (fun k => (f c k ?_).1), fun k h1 h2 => (f 26 k ?_).1⟩)
  · have e : cDy c k = c := by
      unfold cDy
      rw [if_neg (by omega), if_neg (by omega), if_neg (by omega), if_neg (by omega)]
    rw [e]
    have q : ∀ c, (c = 25 ∨ c = 27 ∨ (31 ≤ c ∧ c ≤ 50)) → c < 51 := by omega
    have d : ∀ c, c < 51 → (c = 25 ∨ c = 27 ∨ (31 ≤ c ∧ c ≤ 50)) → Nat.testBit 967540170946815720915544129501361669915712600591546312926688851904004924867082715136 c = false := by decide +kernel
    exact d c (q c hc) hc
  · have d : ∀ k, k < 13 → 5 ≤ k → Nat.testBit 967540170946815720915544129501361669915712600591546312926688851904004924867082715136 (cDy 26 k) = false := by decide +kernel
    exact d k h2 h1
theorem now_e {s s' t t' : Sg} {K : Int} (H : NowG 0 s t) (D : DyE s t) (G : GnR (t.1 1) K) (E : EqP s s') (hM : ∀ p, p < 110 → t'.1 1 p = t.1 1 p) (h24 : t'.1 0 24 = t.1 0 24) : NowG 0 s' t' ∧ DyE s' t' ∧ GnR (t'.1 1) K := by
  have x : GrX 0 s' (t'.1 1) K := grx_x (grx_an H D G) (Int.le_refl K) (fun i k hi k1 k2 => by
    rcases hi with z | z
    · subst z
      exact E.2 k k1 k2
    · exact congrFun (E.1 (24 + 0 + i) (by omega)) k) hM
  have pM : ∀ k, PlP k → t'.1 1 k = t.1 1 k := fun k hk => hM k (plp_lt hk).1
  have bb := H.1.1.2.1
  exact ⟨⟨⟨pln_g H.1.1 (fun k _ _ => congrFun (E.1 25 (Or.inl rfl)) k) (fun i k i1 i2 _ => congrFun (E.1 (24 + i) (by omega)) k) pM, x.1.1, x.1.2⟩, ⟨x.2.2.1, h24.trans H.2.1.2⟩, plb_g H.2.2.1 ⟨bb.2.1.2, bb.2.2.1.2, bb.2.2.2.2⟩ pM, x.2.2.2.1⟩, x.2.1, x.2.2.2.2⟩
theorem prg_e {s s' : Sg} {M M' : Nat → Int32} (h : PrgR s M) (E : ∀ c, (c = 25 ∨ c = 27 ∨ (31 ≤ c ∧ c ≤ 50)) → s'.1 c = s.1 c) (hM : ∀ p, ((110 ≤ p ∧ p < 480) ∨ PlP p ∨ p = 11) → M' p = M p) : PrgR s' M' := prw_0.mp (prw_x (prw_0.mpr h) (fun i k hi _ _ => congrFun (E (24 + 0 + i) (by omega)) k) hM)
theorem anq_e {a b : Int32} {M : Nat → Int32} {P : Nat → Prop} {Q : Int} (hQ : Q ≤ 8) {v : Int32} (ha : ∀ x, x < 32 → bt v x = true → (x : Int) < Q) (h1 : ∀ x, x < 32 → (bt a x = true ↔ ((x : Int) < Q ∧ P x))) (h2 : ∀ x, x < 32 → (bt b x = true ↔ ((x : Int) < Q ∧ P x))) : (a &&& v) = v ↔ (v &&& (b ^^^ (-1))) = 0 := by
  have e : a = b := bt_iff h1 h2
  subst e
  constructor
  · intro w
    refine bt_ext (fun x hx => ?_)
    have q : bt (a &&& v) x = bt v x := by rw [w]
    rw [bt_and] at q
    rw [bt_0, bt_and, bt_not a hx]
    cases z : bt v x with
    | false => rfl
    | true =>
      rw [z] at q
      cases y : bt a x with
      | true => rfl
      | false => rw [y] at q; exact absurd q (by decide)
  · intro w
    refine bt_ext (fun x hx => ?_)
    have q : bt (v &&& (a ^^^ (-1))) x = bt 0 x := by rw [w]
    rw [bt_0, bt_and, bt_not a hx] at q
    rw [bt_and]
    cases z : bt v x with
    | false => cases bt a x <;> rfl
    | true =>
      rw [z] at q
      cases y : bt a x with
      | true => rfl
      | false => rw [y] at q; exact absurd q (by decide)
theorem sh_p : ∀ q, q < 9 → ((1 : Int32) <<< (Int32.ofNat q &&& 31)).toInt = ((2 ^ q : Nat) : Int) := by decide +kernel
theorem setq_b {a v : Int32} (b : 0 ≤ v.toInt ∧ v.toInt ≤ 8) (h : 0 ≤ a.toInt ∧ a.toInt < ((1 : Int32) <<< (v &&& 31)).toInt) : ∀ x, x < 32 → bt a x = true → (x : Int) < v.toInt := fun x hx w => by
  have e : v = Int32.ofNat v.toInt.toNat := of_nat (by omega) (by omega)
  have p : ((1 : Int32) <<< (v &&& 31)).toInt = ((2 ^ v.toInt.toNat : Nat) : Int) := by
    have q := sh_p v.toInt.toNat (by omega)
    rw [← e] at q
    exact q
  have u0 : a.toInt.toNat < 2 ^ v.toInt.toNat := by
    generalize 2 ^ v.toInt.toNat = N at p
    rw [p] at h
    omega
  apply Classical.byContradiction
  intro z
  have u : a.toInt.toNat < 2 ^ x := Nat.lt_of_lt_of_le u0 (Nat.pow_le_pow_right (by decide) (by omega))
  have e1 := BitVec.toInt_eq_toNat_cond a.toBitVec
  have ea : a.toInt = a.toBitVec.toInt := rfl
  have tb : a.toBitVec.toNat = a.toInt.toNat := by
    split at e1 <;> omega
  have w' : a.toBitVec.toNat.testBit x = true := w
  rw [tb, Nat.testBit_lt_two_pow u] at w'
  exact absurd w' (by decide)
theorem ods_b {s0 t0 : Sg} {K : Int} (hK : 9999 ≤ K ∧ K + 200000 ≤ 900000000) (H0 : NowG 0 s0 t0) (D0 : DyE s0 t0) (G0 : GnR (t0.1 1) K) (R0 : PrgR s0 (t0.1 1)) (n0 : ¬ s0.1 27 6 = 0) (W0 : RwQ t0) {a1 a2 a3 : Int32} (ha : ∀ x, x < 32 → bt a1 x = true → (x : Int) < (t0.1 1 1).toInt) (m : Nat) : ∀ (m' : Nat) (v4 v5 : Int32) (s t : Sg), EqP s0 s → SvD t0 t → RsM t0 t → RQ (f_X11_odds_b72 m a1 a2 a3 v4 v5 s) (f_X12_odds_b77 m' a1 a2 a3 v4 v5 t) AnQ := by
  induction m with
  | zero => intro m' v4 v5 s t _ _ _ r s' r' t' z; cases z
  | succ m ih =>
    intro m' v4 v5 s t E S M
    cases m' with
    | zero => intro r s' r' t' _ z; cases z
    | succ m' =>
    unfold f_X11_odds_b72 f_X12_odds_b77
    refine rq_iC (fun c => rq_iM (fun _ => aq_11 (pq_b (P := fun _ _ => True) pq_tr (fun _ s16 _ => grt_1 s16)) (tb_2 _ _ _)) (fun d => absurd c d)) (fun c => rq_iM (fun d => absurd d c) (fun _ => ?_))
    obtain ⟨H, D, G⟩ := now_e H0 D0 G0 E M.1 M.2
    have R : PrgR s (t.1 1) := prg_e R0 E.1 (fun p hp => by
      rcases hp with z | z | z
      · exact S.2 p (Or.inl ⟨z.1, by omega⟩)
      · exact S.2 p (Or.inr (Or.inl z))
      · exact S.2 p (Or.inr (Or.inr z)))
    refine rq_bC (cp53 s) (fun _ s20 cc => ?_)
    obtain ⟨Hz, Dz, Gz⟩ := spare_r H D G cc (fun _ _ => rfl) rfl
    have Ec := eqp_c cc
    have Rz : PrgR s20 (t.1 1) := prg_e R Ec.1 (fun _ _ => rfl)
    rcases prg_x Rz with y | ⟨X, y⟩
    · exfalso
      have e1 : s20.1 27 6 = s0.1 27 6 := congrFun ((Ec.1 27 (Or.inr (Or.inl rfl))).trans (E.1 27 (Or.inr (Or.inl rfl)))) 6
      exact n0 (e1.symm.trans y.1)
    · refine rq_b2 (rq_a (run_rz hK Hz Dz Gz y (a2 + v5)) (eqp_r _ s20) (svd_lives _ (bdk_of H0) W0 S)) (fun _ s22 _ t20 k => ?_)
      obtain ⟨L, Er, S'⟩ := k
      have Hl : NowG 27 s22 t20 := L.1.1.1
      have Pl := Hl.1.1
      have q1 : t20.1 1 1 = t0.1 1 1 := S'.2 1 (Or.inr (Or.inl (plp_0 (by decide))))
      refine rq_bM (so_p Pl.2.1.2.1 (soh_2 Pl)) (fun r21 t22 l => ?_)
      obtain ⟨et, l⟩ := l
      rw [et]
      have ae := anq_e (a := s22.1 53 5) (b := r21) (M := t20.1 1) (Q := (t20.1 1 1).toInt) (v := a1) Pl.2.1.2.1.2 (by rw [q1]; exact ha) (ovr_bz Hl) l
      have E' := eqp_t (eqp_t E Ec) Er
      have nx : ∀ v w : Int32, v = w → RQ (f_X11_odds_b72 m a1 a2 a3 v (v5 + 1) s22) (bd (f_X12_takesBack t20) (fun _ t24 => f_X12_odds_b77 m' a1 a2 a3 w (v5 + 1) t24)) AnQ := fun v w e => by
        rw [e]
        exact rq_bM (svd_t S') (fun _ t24 g => ih m' w (v5 + 1) s22 t24 E' g.1 g.2)
      exact rq_iC (fun d => rq_iM (fun _ => nx _ _ rfl) (fun z => absurd (ae.mp d) z)) (fun d => rq_iM (fun z => absurd (ae.mpr z) d) (fun _ => nx _ _ (add0 v4).symm))
theorem odds_q {s t : Sg} {K : Int} (hK : 9999 ≤ K ∧ K + 200000 ≤ 900000000) (H : NowG 0 s t) (D : DyE s t) (G : GnR (t.1 1) K) (R : PrgR s (t.1 1)) (W : RwQ t) (a1 a2 a3 : Int32) : RQ (f_X11_odds a1 a2 a3 s) (f_X12_odds a1 a2 a3 t) AnQ := by
  have P := H.1.1
  unfold f_X11_odds f_X12_odds
  refine rq_f (iset_c P a1) (iset_m a1 t) Iff.rfl (fun hs => ?_) (fun _ => ?_)
  · rw [if1, if1]
    refine rq_f (P := (0 : Int32).toInt ≤ a2.toInt ∧ a2.toInt ≤ (9999 : Int32).toInt) (wi_p a2 0 9999 s) (from_m a2 0 9999 t) Iff.rfl (fun _ => ?_) (fun _ => ?_)
    · rw [if1, if1]
      refine rq_f (P := (1 : Int32).toInt ≤ a3.toInt ∧ a3.toInt ≤ (20 : Int32).toInt) (wi_p a3 1 20 s) (from_m a3 1 20 t) Iff.rfl (fun _ => ?_) (fun _ => ?_)
      · rw [if1, if1]
        refine rq_iC (fun c => rq_iM (fun _ => ?_) (fun d => absurd c d)) (fun c => rq_iM (fun d => absurd d c) (fun _ => rf_2 s t (by decide)))
        rcases prg_x R with ⟨y1, y2⟩ | ⟨X, y⟩
        · rw [if_pos y1, if_pos y2]
          exact rf_2 s t (by decide)
        · have n11 : ¬ t.1 1 11 = -1 := fun z => by
            have w := y.1.2.2.1
            rw [z] at w
            have e : (-1 : Int32).toInt = -1 := rfl
            omega
          have n27 : ¬ s.1 27 6 = 0 := by rw [y.1.1]; decide
          rw [if_neg n27, if_neg n11]
          have hq : ∀ x, x < 32 → bt a1 x = true → (x : Int) < (t.1 1 1).toInt := setq_b P.2.1.2.1 hs
          exact rq_bM svd_k (fun _ t16 g => ods_b hK H D G R n27 W hq BIG BIG 0 0 s t16 ⟨fun _ _ => rfl, fun _ _ _ => rfl⟩ g.1 g.2)
      · rw [if0, if0]
        exact rf_2 s t (by decide)
    · rw [if0, if0]
      exact rf_2 s t (by decide)
  · rw [if0, if0]
    exact rf_2 s t (by decide)
