/-! what is done: buy, sweep, shovel, rain, snow -/
theorem min_c (a b : Int32) : (if a < b then a else b) = (if b < a then b else a) := by
  by_cases h : a < b
  · have h' := i_lt h
    rw [if_pos h, if_neg (fun z => by have := i_lt z; omega)]
  · rw [if_neg h]
    by_cases g : b < a
    · rw [if_pos g]
    · rw [if_neg g]
      have h := i_nlt h
      have g := i_nlt g
      exact Int32.toInt_inj.mp (by omega)
theorem pI_cm (s : Sg) (c k k' : Nat) (v v' : Int32) (h : ¬ k = k') : pI (pI s c k v) c k' v' = pI (pI s c k' v') c k v := by
  have e : ∀ c2 k2, (pI (pI s c k v) c k' v').1 c2 k2 = (pI (pI s c k' v') c k v).1 c2 k2 := fun c2 k2 => by
    rw [pI_1, pI_1, pI_1, pI_1]
    by_cases a : c2 = c ∧ k2 = k
    · rw [if_neg (fun z => h (a.2.symm.trans z.2)), if_pos a, if_pos a]
    · rw [if_neg a, if_neg a]
  exact Prod.ext (funext fun c2 => funext fun k2 => e c2 k2) rfl
theorem gone_k {t : Sg} {h p : Nat} {v : Int32} (hp : ¬ p = 9) (hg : ¬ bt (t.1 1 9) h = true) : ¬ bt ((pI t 1 p v).1 1 9) h = true := by
  rw [pI_1, if_neg (fun z => hp z.2.symm)]
  exact hg
theorem gS {s t : Sg} (H : NowG 0 s t) {h : Nat} (hh : h < 8) : s.1 40 h = t.1 1 (16 + 3 * h) ∧ s.1 41 h = t.1 1 (17 + 3 * h) ∧ s.1 42 h = t.1 1 (18 + 3 * h) := ⟨H.1.2.1 40 h _ (Or.inl ⟨hh, Or.inl ⟨rfl, rfl⟩⟩), H.1.2.1 41 h _ (Or.inl ⟨hh, Or.inr (Or.inl ⟨rfl, rfl⟩)⟩), H.1.2.1 42 h _ (Or.inl ⟨hh, Or.inr (Or.inr (Or.inl ⟨rfl, rfl⟩))⟩)⟩
theorem nSalt {s t : Sg} (H : NowG 0 s t) {h : Nat} (hh : h < 8) (v : Int32) (hz : bt (t.1 1 9) h = true → v = 0) : NowG 0 (pI s 40 h v) (pI t 1 (16 + 3 * h) v) := ng_i (by omega) H (Or.inl ⟨hh, Or.inl ⟨rfl, rfl⟩⟩) (fun z => by omega) (fun x hx z b => hz (by
  have q : x = h := by omega
  subst q
  exact b))
theorem nSug {s t : Sg} (H : NowG 0 s t) {h : Nat} (hh : h < 8) (v : Int32) (hz : bt (t.1 1 9) h = true → v = 0) : NowG 0 (pI s 41 h v) (pI t 1 (17 + 3 * h) v) := ng_i (by omega) H (Or.inl ⟨hh, Or.inr (Or.inl ⟨rfl, rfl⟩)⟩) (fun z => by omega) (fun x hx z b => hz (by
  have q : x = h := by omega
  subst q
  exact b))
theorem nSnw {s t : Sg} (H : NowG 0 s t) {h : Nat} (hh : h < 8) (v : Int32) (hz : bt (t.1 1 9) h = true → v = 0) : NowG 0 (pI s 42 h v) (pI t 1 (18 + 3 * h) v) := ng_i (by omega) H (Or.inl ⟨hh, Or.inr (Or.inr (Or.inl ⟨rfl, rfl⟩))⟩) (fun z => by omega) (fun x hx z b => hz (by
  have q : x = h := by omega
  subst q
  exact b))
theorem nFld {s t : Sg} (H : NowG 0 s t) (k p : Nat) (v : Int32) (hk : (k = 8 ∧ p = 12) ∨ (k = 9 ∧ p = 5) ∨ (k = 10 ∧ p = 6) ∨ (k = 11 ∧ p = 7) ∨ (k = 12 ∧ p = 8)) : NowG 0 (pI s 26 k v) (pI t 1 p v) := ng_i (by omega) H (Or.inr (Or.inr ⟨rfl, by omega⟩)) (fun z => by omega) (fun x hx z => by omega)
theorem gF {s t : Sg} (H : NowG 0 s t) : s.1 26 7 = t.1 1 10 ∧ s.1 26 8 = t.1 1 12 ∧ s.1 26 9 = t.1 1 5 ∧ s.1 26 10 = t.1 1 6 ∧ s.1 26 11 = t.1 1 7 ∧ s.1 26 12 = t.1 1 8 := ⟨H.1.2.1 26 7 10 (Or.inr (Or.inr ⟨rfl, by omega⟩)), H.1.2.1 26 8 12 (Or.inr (Or.inr ⟨rfl, by omega⟩)), H.1.2.1 26 9 5 (Or.inr (Or.inr ⟨rfl, by omega⟩)), H.1.2.1 26 10 6 (Or.inr (Or.inr ⟨rfl, by omega⟩)), H.1.2.1 26 11 7 (Or.inr (Or.inr ⟨rfl, by omega⟩)), H.1.2.1 26 12 8 (Or.inr (Or.inr ⟨rfl, by omega⟩))⟩
theorem buys_r {s t : Sg} (H : NowG 0 s t) {a c : Int32} {g h : Nat} (ha : a.toInt = (g : Int)) (hg : (g : Int) < (t.1 1 3).toInt) (hc : c.toInt = (h : Int)) (hh : h < 8) (ng : ¬ bt (t.1 1 9) h = true) (n : Int32) : RQ (f_X2_addBought_25 a n c s) (f_X12_buys a n c t) (fun r s' r' t' => r = r' ∧ NowG 0 s' t') := by
  have g4 : g < 4 := by
    have := H.1.1.2.1.2.2.2.2
    omega
  have x := gx_x ha g4
  have y := hr_x hc hh
  have pl := H.1.1.2.2.2.2.2.2 g hg
  have p1 : s.1 38 g = t.1 1 (93 + 3 * g) := pl.1
  have p2 : s.1 39 g = t.1 1 (94 + 3 * g) := pl.2
  have st : s.1 44 g = t.1 1 (92 + 3 * g) := H.1.2.1 44 g _ (Or.inr (Or.inl ⟨g4, rfl, rfl⟩))
  unfold f_X2_addBought_25 f_X12_buys
  refine rq_cC (fun _ => rq_cM (fun _ => rq_nC (fun x2 e2 => rq_nM (fun y2 f2 => ?_))))
  have exy : x2 = y2 := by rw [e2, f2, cl_h ha, x.2.2, p2]
  subst exy
  refine rq_cM (fun _ => rq_nC (fun s3 e3 => rq_nM (fun t4 f4 => ?_)))
  have H3 : NowG 0 s3 t4 := by
    rw [e3, f4, cl_h ha, x.1, st]
    exact ng_i (by omega) H (Or.inr (Or.inl ⟨g4, rfl, rfl⟩)) (fun z => by omega) (fun x hx z => by omega)
  have q3 : s3.1 38 g = t.1 1 (93 + 3 * g) := by rw [e3, q_nc rfl]; exact p1
  have q4 : t4.1 1 (93 + 3 * g) = t.1 1 (93 + 3 * g) := by rw [f4, x.1, pI_1, if_neg (fun z => by have := z.2; omega)]
  have r4 : t4.1 1 9 = t.1 1 9 := by rw [f4, x.1, pI_1, if_neg (fun z => by have := z.2; omega)]
  refine rq_cM (fun _ => rq_nC (fun s4 e4 => rq_nM (fun t6 f6 => ?_)))
  have H4 : NowG 0 s4 t6 := by
    rw [e4, f6, cl_h ha, x.2.1, q3, q4, (gF H3).2.1]
    exact nFld H3 8 12 _ (Or.inl ⟨rfl, rfl⟩)
  have ng6 : ¬ bt (t6.1 1 9) h = true := by
    rw [f6, q_ne rfl, r4]
    exact ng
  refine rq_b2 (add_r H4 hc hh ng6 (n - x2)) (fun _ s6 _ t8 k => rq_cC (fun _ => rq_bM (hr_p c t8) (fun r9 t10 e => rq_cM (fun _ => rq_nC (fun s8 e8 => rq_nM (fun t12 f12 => rq_s ⟨rfl, ?_⟩))))))
  obtain ⟨et, e⟩ := e
  subst et
  obtain ⟨k1, k2⟩ := k
  have H8 : NowG 0 s8 t12 := by
    rw [e8, f12, e, cl_h hc, y.2.1, (gS k1 hh).2.1]
    exact nSug k1 hh _ (fun b => absurd b (by rw [k2]; exact ng6))
  have w := nFld H8 9 5 (s8.1 26 9 + x2) (Or.inr (Or.inl ⟨rfl, rfl⟩))
  rw [(gF H8).2.2.1] at w ⊢
  exact w
theorem sweeps_r {s t : Sg} (H : NowG 0 s t) {a : Int32} {h : Nat} (ha : a.toInt = (h : Int)) (hh : h < 8) : RQ (f_X2_clearStep a s) (f_X12_sweeps a t) (fun r s' r' t' => r = r' ∧ NowG 0 s' t') := by
  have x := hr_x ha hh
  unfold f_X2_clearStep f_X12_sweeps
  refine rq_v (ly_c H.1.2.1 ha hh) (grains_m ha hh t) (rq_cC (fun _ => rq_bM (hr_p a t) (fun r3 t4 e => rq_cM (fun _ => rq_bM (hr_p a _) (fun r6 t7 f => rq_cM (fun _ => rq_nC (fun s4 e4 => rq_nM (fun t9 f9 => rq_nC (fun s5 e5 => rq_s ⟨rfl, ?_⟩)))))))))
  obtain ⟨et, e⟩ := e
  obtain ⟨eu, f⟩ := f
  have H4 : NowG 0 s4 t9 := by
    rw [e4, f9, f, eu, e, et, cl_h ha, x.1, x.2.1]
    exact nSug (nSalt H hh 0 (fun _ => rfl)) hh 0 (fun _ => rfl)
  rw [e5, (gF H4).2.2.2.2.1]
  exact nFld H4 11 7 _ (Or.inr (Or.inr (Or.inr (Or.inl ⟨rfl, rfl⟩))))
theorem carry_r {s t : Sg} (H : NowG 0 s t) {a b : Int32} {h j : Nat} (ha : a.toInt = (h : Int)) (hh : h < 8) (hb : b.toInt = (j : Int)) (hj : j < 8) (na : ¬ bt (t.1 1 9) h = true) (nb : ¬ bt (t.1 1 9) j = true) (n : Int32) : RQ (f_X2_carry a b n s) (f_X12_brings a b n t) (fun r s' r' t' => r = r' ∧ NowG 0 s' t' ∧ (∀ c, ¬ c = 40 → ¬ c = 41 → s'.1 c = s.1 c) ∧ (∀ p, p < 16 → t'.1 1 p = t.1 1 p) ∧ t'.1 0 = t.1 0) := by
  have x := hr_x ha hh
  have y := hr_x hb hj
  have g0 := gS H hh
  unfold f_X2_carry f_X12_brings
  refine rq_bM (hr_p a t) (fun r1 t2 e => ?_)
  obtain ⟨et, e⟩ := e
  subst et
  refine rq_cC (fun _ => rq_cM (fun _ => rq_nC (fun x2 e2 => rq_nM (fun x4 f4 => ?_))))
  have q1 : x2 = x4 := by rw [e2, f4, e, cl_h ha, x.1, g0.1]
  subst q1
  refine rq_bM (hr_p a t2) (fun r5 t6 e6 => ?_)
  obtain ⟨et, e6⟩ := e6
  subst et
  refine rq_cM (fun _ => rq_nC (fun x3 e3 => rq_nM (fun x8 f8 => ?_)))
  have q2 : x3 = x8 := by rw [e3, f8, e6, cl_h ha, x.2.1, g0.2.1]
  subst q2
  refine rq_bM (hr_p a t6) (fun r9 t10 e10 => ?_)
  obtain ⟨et, e10⟩ := e10
  subst et
  refine rq_cM (fun _ => rq_nC (fun s4 e4 => rq_nM (fun t12 f12 => ?_)))
  have H4 : NowG 0 s4 t12 := by
    rw [e4, f12, e10, cl_h ha, x.1, g0.1]
    exact nSalt H hh _ (fun w => absurd w na)
  have k12 : ∀ p, p < 16 → t12.1 1 p = t10.1 1 p := fun p hp => by rw [f12, e10, x.1, pI_1, if_neg (fun z => by have := z.2; omega)]
  have r12 := k12 9 (by decide)
  refine rq_bM (hr_p a t12) (fun r13 t14 e14 => ?_)
  obtain ⟨et, e14⟩ := e14
  subst et
  refine rq_cM (fun _ => rq_nC (fun s5 e5 => rq_nM (fun t16 f16 => ?_)))
  have H5 : NowG 0 s5 t16 := by
    rw [e5, f16, e14, cl_h ha, x.2.1, (gS H4 hh).2.1]
    exact nSug H4 hh _ (fun w => absurd w (by rw [r12]; exact na))
  have k16 : ∀ p, p < 16 → t16.1 1 p = t10.1 1 p := fun p hp => by rw [f16, e14, x.2.1, pI_1, if_neg (fun z => by have := z.2; omega)]; exact k12 p hp
  have r16 := k16 9 (by decide)
  refine rq_bM (hr_p b t16) (fun r17 t18 e18 => ?_)
  obtain ⟨et, e18⟩ := e18
  subst et
  refine rq_cC (fun _ => rq_cM (fun _ => rq_nC (fun s7 e7 => rq_nM (fun t20 f20 => ?_))))
  have H7 : NowG 0 s7 t20 := by
    rw [e7, f20, e18, cl_h hb, y.1, (gS H5 hj).1]
    exact nSalt H5 hj _ (fun w => absurd w (by rw [r16]; exact nb))
  have k20 : ∀ p, p < 16 → t20.1 1 p = t10.1 1 p := fun p hp => by rw [f20, e18, y.1, pI_1, if_neg (fun z => by have := z.2; omega)]; exact k16 p hp
  have r20 := k20 9 (by decide)
  refine rq_bM (hr_p b t20) (fun r21 t22 e22 => ?_)
  obtain ⟨et, e22⟩ := e22
  subst et
  refine rq_cM (fun _ => rq_nC (fun s8 e8 => rq_nM (fun t24 f24 => rq_s ⟨rfl, ?_, fun c c1 c2 => ?_, fun p hp => ?_, ?_⟩)))
  · rw [e8, f24, e22, cl_h hb, y.2.1, (gS H7 hj).2.1]
    exact nSug H7 hj _ (fun w => absurd w (by rw [r20]; exact nb))
  · rw [e8, pI_o _ _ _ _ _ c2, e7, pI_o _ _ _ _ _ c1, e5, pI_o _ _ _ _ _ c2, e4, pI_o _ _ _ _ _ c1]
  · rw [f24, e22, y.2.1, pI_1, if_neg (fun z => by have := z.2; omega)]
    exact k20 p hp
  · rw [f24, pI_o _ _ _ _ _ (by decide), f20, pI_o _ _ _ _ _ (by decide), f16, pI_o _ _ _ _ _ (by decide), f12, pI_o _ _ _ _ _ (by decide)]
theorem rain_b (m : Nat) : ∀ (m' i : Nat) (v2 v3 : Int32) (s t : Sg), v3.toInt = (i : Int) → i ≤ 8 → NowG 0 s t → RQ (f_X2_letRain_25_b4 m v2 v3 s) (f_X12_rains_b4 m' v2 v3 t) (fun r s' r' t' => r = r' ∧ NowG 0 s' t') := by
  induction m with
  | zero => intro m' i v2 v3 s t _ _ _ a s' b t' e; cases e
  | succ m ih =>
    intro m' i v2 v3 s t h3 hi H
    cases m' with
    | zero => exact rq_0
    | succ m' =>
      have e1 : (1 : Int32).toInt = 1 := rfl
      have e0 : (0 : Int32).toInt = 0 := rfl
      have a3 : (v3 + 1).toInt = v3.toInt + 1 := i_addx v3 1 (by omega)
      have e13 : s.1 25 13 = t.1 1 0 := e13_ H
      have b0 := H.1.1.2.1.1
      unfold f_X2_letRain_25_b4 f_X12_rains_b4
      rw [e13]
      refine rq_iC (fun c => rq_iM (fun _ => rq_nM (fun t1 f1 => rq_s ⟨rfl, ?_⟩)) (fun z => absurd c z)) (fun c => rq_iM (fun z => absurd z c) (fun _ => ?_))
      · rw [f1, (gF H).2.2.2.1]
        exact ng_i (by omega) (nFld H 10 6 _ (Or.inr (Or.inr (Or.inl ⟨rfl, rfl⟩)))) (Or.inr (Or.inr ⟨rfl, by omega⟩)) (fun _ => Or.inr rfl) (fun x hx z => absurd z (by omega))
      · have c := i_nle c
        have hh : i < 8 := by omega
        have x := hr_x h3 hh
        have g0 := gS H hh
        have ew : s.1 25 18 = t.1 1 13 := H.1.1.2.2.1.2.1
        refine rq_bM (hr_p v3 t) (fun r2 t3 e => ?_)
        obtain ⟨et, e⟩ := e
        subst et
        refine rq_cC (fun _ => rq_cM (fun _ => rq_nC (fun x2 e2 => rq_nM (fun x5 f5 => ?_))))
        have q1 : x2 = x5 := by rw [e2, f5, e, cl_h h3, x.1, g0.1, ew]; exact min_c _ _
        subst q1
        refine rq_cM (fun _ => rq_nC (fun x3 e3 => rq_nM (fun x7 f7 => ?_)))
        have q2 : x3 = x7 := by rw [e3, f7, e, cl_h h3, x.2.1, g0.2.1, Int32.add_comm x2]
        subst q2
        refine rq_nC (fun s4 e4 => rq_nM (fun t8 f8 => rq_nM (fun t9 f9 => ih m' (i + 1) x3 (v3 + 1) s4 t9 (by omega) (by omega) ?_)))
        have z0 : bt (t3.1 1 9) i = true → t3.1 1 (16 + 3 * i) - x2 = 0 := fun w => by
          have z := (H.2.2.2 i hh w).1
          have wb := H.2.2.1.2.2.2.1
          have q : x2 = 0 := by
            rw [f5, e, x.1, z]
            by_cases y : t3.1 1 13 < 0
            · have y := i_lt y
              omega
            · rw [if_neg y]
          rw [z, q]
          rfl
        rw [e4, f9, f8, e, cl_h h3, x.1, x.2.1, pI_cm _ _ _ _ _ _ (by omega), q_nc rfl, g0.1]
        refine nSalt (nSug H hh 0 (fun _ => rfl)) hh _ (fun w => z0 ?_)
        rw [pI_1, if_neg (fun z => by have := z.2; omega)] at w
        exact w
theorem rains_r {s t : Sg} (H : NowG 0 s t) : RQ (f_X2_letRain_25 s) (f_X12_rains t) (fun r s' r' t' => r = r' ∧ NowG 0 s' t') := by
  unfold f_X2_letRain_25 f_X12_rains
  exact rain_b BIG BIG 0 0 0 s t rfl (by decide) H
theorem snow_b (n : Int32) (m : Nat) : ∀ (m' i : Nat) (v3 : Int32) (s t : Sg), v3.toInt = (i : Int) → i ≤ 8 → NowG 0 s t → RQ (f_X2_letSnow_25_b2 m n v3 s) (f_X12_snows_b2 m' n v3 t) (fun _ s' _ t' => NowG 0 s' t') := by
  induction m with
  | zero => intro m' i v3 s t _ _ _ a s' b t' e; cases e
  | succ m ih =>
    intro m' i v3 s t h3 hi H
    cases m' with
    | zero => exact rq_0
    | succ m' =>
      have e1 : (1 : Int32).toInt = 1 := rfl
      have a3 : (v3 + 1).toInt = v3.toInt + 1 := i_addx v3 1 (by omega)
      have e13 : s.1 25 13 = t.1 1 0 := e13_ H
      have b0 := H.1.1.2.1.1
      unfold f_X2_letSnow_25_b2 f_X12_snows_b2
      rw [e13]
      refine rq_iC (fun c => rq_iM (fun _ => rq_s H) (fun z => absurd c z)) (fun c => rq_iM (fun z => absurd z c) (fun _ => ?_))
      have c := i_nle c
      have hh : i < 8 := by omega
      have x := hr_x h3 hh
      have g0 := gS H hh
      refine rq_f (gone_c H.1.1 h3 (by omega)) (gone_m h3 (by omega) t) Iff.rfl (fun hg => ?_) (fun hg => ?_)
      · rw [if1, if1]
        exact ih m' (i + 1) (v3 + 1) s t (by omega) (by omega) H
      · rw [if0, if0]
        refine rq_bM (hr_p v3 t) (fun r3 t4 e => rq_bM (hr_p v3 t4) (fun r5 t6 f => rq_cC (fun _ => rq_cM (fun _ => rq_cM (fun _ => rq_nC (fun s4 e4 => rq_nM (fun t9 f9 => ih m' (i + 1) (v3 + 1) s4 t9 (by omega) (by omega) ?_)))))))
        obtain ⟨et, e⟩ := e
        obtain ⟨eu, f⟩ := f
        rw [e4, f9, f, e, eu, et, cl_h h3, x.2.2, g0.2.2]
        exact nSnw H hh _ (fun w => absurd w hg)
theorem snows_r {s t : Sg} (H : NowG 0 s t) (n : Int32) : RQ (f_X2_letSnow_25 n s) (f_X12_snows n t) (fun _ s' _ t' => NowG 0 s' t') := by
  unfold f_X2_letSnow_25 f_X12_snows
  exact snow_b n BIG BIG 0 0 s t rfl (by decide) H
theorem gSz {s t : Sg} (H : NowG 27 s t) {h : Nat} (hh : h < 8) : s.1 67 h = t.1 1 (16 + 3 * h) ∧ s.1 68 h = t.1 1 (17 + 3 * h) ∧ s.1 69 h = t.1 1 (18 + 3 * h) := ⟨H.1.2.1 67 h _ (Or.inl ⟨hh, Or.inl ⟨rfl, rfl⟩⟩), H.1.2.1 68 h _ (Or.inl ⟨hh, Or.inr (Or.inl ⟨rfl, rfl⟩)⟩), H.1.2.1 69 h _ (Or.inl ⟨hh, Or.inr (Or.inr (Or.inl ⟨rfl, rfl⟩))⟩)⟩
theorem nSaltz {s t : Sg} (H : NowG 27 s t) {h : Nat} (hh : h < 8) (v : Int32) (hz : bt (t.1 1 9) h = true → v = 0) : NowG 27 (pI s 67 h v) (pI t 1 (16 + 3 * h) v) := ng_i (by omega) H (Or.inl ⟨hh, Or.inl ⟨rfl, rfl⟩⟩) (fun z => by omega) (fun x hx z b => hz (by
  have q : x = h := by omega
  subst q
  exact b))
theorem nSugz {s t : Sg} (H : NowG 27 s t) {h : Nat} (hh : h < 8) (v : Int32) (hz : bt (t.1 1 9) h = true → v = 0) : NowG 27 (pI s 68 h v) (pI t 1 (17 + 3 * h) v) := ng_i (by omega) H (Or.inl ⟨hh, Or.inr (Or.inl ⟨rfl, rfl⟩)⟩) (fun z => by omega) (fun x hx z b => hz (by
  have q : x = h := by omega
  subst q
  exact b))
theorem nSnwz {s t : Sg} (H : NowG 27 s t) {h : Nat} (hh : h < 8) (v : Int32) (hz : bt (t.1 1 9) h = true → v = 0) : NowG 27 (pI s 69 h v) (pI t 1 (18 + 3 * h) v) := ng_i (by omega) H (Or.inl ⟨hh, Or.inr (Or.inr (Or.inl ⟨rfl, rfl⟩))⟩) (fun z => by omega) (fun x hx z b => hz (by
  have q : x = h := by omega
  subst q
  exact b))
theorem nFldz {s t : Sg} (H : NowG 27 s t) (k p : Nat) (v : Int32) (hk : (k = 8 ∧ p = 12) ∨ (k = 9 ∧ p = 5) ∨ (k = 10 ∧ p = 6) ∨ (k = 11 ∧ p = 7) ∨ (k = 12 ∧ p = 8)) : NowG 27 (pI s 53 k v) (pI t 1 p v) := ng_i (by omega) H (Or.inr (Or.inr ⟨rfl, by omega⟩)) (fun z => by omega) (fun x hx z => by omega)
theorem gFz {s t : Sg} (H : NowG 27 s t) : s.1 53 7 = t.1 1 10 ∧ s.1 53 8 = t.1 1 12 ∧ s.1 53 9 = t.1 1 5 ∧ s.1 53 10 = t.1 1 6 ∧ s.1 53 11 = t.1 1 7 ∧ s.1 53 12 = t.1 1 8 := ⟨H.1.2.1 53 7 10 (Or.inr (Or.inr ⟨rfl, by omega⟩)), H.1.2.1 53 8 12 (Or.inr (Or.inr ⟨rfl, by omega⟩)), H.1.2.1 53 9 5 (Or.inr (Or.inr ⟨rfl, by omega⟩)), H.1.2.1 53 10 6 (Or.inr (Or.inr ⟨rfl, by omega⟩)), H.1.2.1 53 11 7 (Or.inr (Or.inr ⟨rfl, by omega⟩)), H.1.2.1 53 12 8 (Or.inr (Or.inr ⟨rfl, by omega⟩))⟩
theorem buys_rz {s t : Sg} (H : NowG 27 s t) {a c : Int32} {g h : Nat} (ha : a.toInt = (g : Int)) (hg : (g : Int) < (t.1 1 3).toInt) (hc : c.toInt = (h : Int)) (hh : h < 8) (ng : ¬ bt (t.1 1 9) h = true) (n : Int32) : RQ (f_X2_addBought_25_53 a n c s) (f_X12_buys a n c t) (fun r s' r' t' => r = r' ∧ NowG 27 s' t') := by
  have g4 : g < 4 := by
    have := H.1.1.2.1.2.2.2.2
    omega
  have x := gx_x ha g4
  have y := hr_x hc hh
  have pl := H.1.1.2.2.2.2.2.2 g hg
  have p1 : s.1 38 g = t.1 1 (93 + 3 * g) := pl.1
  have p2 : s.1 39 g = t.1 1 (94 + 3 * g) := pl.2
  have st : s.1 71 g = t.1 1 (92 + 3 * g) := H.1.2.1 71 g _ (Or.inr (Or.inl ⟨g4, rfl, rfl⟩))
  unfold f_X2_addBought_25_53 f_X12_buys
  refine rq_cC (fun _ => rq_cM (fun _ => rq_nC (fun x2 e2 => rq_nM (fun y2 f2 => ?_))))
  have exy : x2 = y2 := by rw [e2, f2, cl_h ha, x.2.2, p2]
  subst exy
  refine rq_cM (fun _ => rq_nC (fun s3 e3 => rq_nM (fun t4 f4 => ?_)))
  have H3 : NowG 27 s3 t4 := by
    rw [e3, f4, cl_h ha, x.1, st]
    exact ng_i (by omega) H (Or.inr (Or.inl ⟨g4, rfl, rfl⟩)) (fun z => by omega) (fun x hx z => by omega)
  have q3 : s3.1 38 g = t.1 1 (93 + 3 * g) := by rw [e3, q_nc rfl]; exact p1
  have q4 : t4.1 1 (93 + 3 * g) = t.1 1 (93 + 3 * g) := by rw [f4, x.1, pI_1, if_neg (fun z => by have := z.2; omega)]
  have r4 : t4.1 1 9 = t.1 1 9 := by rw [f4, x.1, pI_1, if_neg (fun z => by have := z.2; omega)]
  refine rq_cM (fun _ => rq_nC (fun s4 e4 => rq_nM (fun t6 f6 => ?_)))
  have H4 : NowG 27 s4 t6 := by
    rw [e4, f6, cl_h ha, x.2.1, q3, q4, (gFz H3).2.1]
    exact nFldz H3 8 12 _ (Or.inl ⟨rfl, rfl⟩)
  have ng6 : ¬ bt (t6.1 1 9) h = true := by
    rw [f6, q_ne rfl, r4]
    exact ng
  refine rq_b2 (add_rz H4 hc hh ng6 (n - x2)) (fun _ s6 _ t8 k => rq_cC (fun _ => rq_bM (hr_p c t8) (fun r9 t10 e => rq_cM (fun _ => rq_nC (fun s8 e8 => rq_nM (fun t12 f12 => rq_s ⟨rfl, ?_⟩))))))
  obtain ⟨et, e⟩ := e
  subst et
  obtain ⟨k1, k2⟩ := k
  have H8 : NowG 27 s8 t12 := by
    rw [e8, f12, e, cl_h hc, y.2.1, (gSz k1 hh).2.1]
    exact nSugz k1 hh _ (fun b => absurd b (by rw [k2]; exact ng6))
  have w := nFldz H8 9 5 (s8.1 53 9 + x2) (Or.inr (Or.inl ⟨rfl, rfl⟩))
  rw [(gFz H8).2.2.1] at w ⊢
  exact w
theorem sweeps_rz {s t : Sg} (H : NowG 27 s t) {a : Int32} {h : Nat} (ha : a.toInt = (h : Int)) (hh : h < 8) : RQ (f_X2_clearStep_53 a s) (f_X12_sweeps a t) (fun r s' r' t' => r = r' ∧ NowG 27 s' t') := by
  have x := hr_x ha hh
  unfold f_X2_clearStep_53 f_X12_sweeps
  refine rq_v (ly_cz H.1.2.1 ha hh) (grains_m ha hh t) (rq_cC (fun _ => rq_bM (hr_p a t) (fun r3 t4 e => rq_cM (fun _ => rq_bM (hr_p a _) (fun r6 t7 f => rq_cM (fun _ => rq_nC (fun s4 e4 => rq_nM (fun t9 f9 => rq_nC (fun s5 e5 => rq_s ⟨rfl, ?_⟩)))))))))
  obtain ⟨et, e⟩ := e
  obtain ⟨eu, f⟩ := f
  have H4 : NowG 27 s4 t9 := by
    rw [e4, f9, f, eu, e, et, cl_h ha, x.1, x.2.1]
    exact nSugz (nSaltz H hh 0 (fun _ => rfl)) hh 0 (fun _ => rfl)
  rw [e5, (gFz H4).2.2.2.2.1]
  exact nFldz H4 11 7 _ (Or.inr (Or.inr (Or.inr (Or.inl ⟨rfl, rfl⟩))))
theorem carry_rz {s t : Sg} (H : NowG 27 s t) {a b : Int32} {h j : Nat} (ha : a.toInt = (h : Int)) (hh : h < 8) (hb : b.toInt = (j : Int)) (hj : j < 8) (na : ¬ bt (t.1 1 9) h = true) (nb : ¬ bt (t.1 1 9) j = true) (n : Int32) : RQ (f_X2_carry_53 a b n s) (f_X12_brings a b n t) (fun r s' r' t' => r = r' ∧ NowG 27 s' t' ∧ (∀ c, ¬ c = 67 → ¬ c = 68 → s'.1 c = s.1 c) ∧ (∀ p, p < 16 → t'.1 1 p = t.1 1 p) ∧ t'.1 0 = t.1 0) := by
  have x := hr_x ha hh
  have y := hr_x hb hj
  have g0 := gSz H hh
  unfold f_X2_carry_53 f_X12_brings
  refine rq_bM (hr_p a t) (fun r1 t2 e => ?_)
  obtain ⟨et, e⟩ := e
  subst et
  refine rq_cC (fun _ => rq_cM (fun _ => rq_nC (fun x2 e2 => rq_nM (fun x4 f4 => ?_))))
  have q1 : x2 = x4 := by rw [e2, f4, e, cl_h ha, x.1, g0.1]
  subst q1
  refine rq_bM (hr_p a t2) (fun r5 t6 e6 => ?_)
  obtain ⟨et, e6⟩ := e6
  subst et
  refine rq_cM (fun _ => rq_nC (fun x3 e3 => rq_nM (fun x8 f8 => ?_)))
  have q2 : x3 = x8 := by rw [e3, f8, e6, cl_h ha, x.2.1, g0.2.1]
  subst q2
  refine rq_bM (hr_p a t6) (fun r9 t10 e10 => ?_)
  obtain ⟨et, e10⟩ := e10
  subst et
  refine rq_cM (fun _ => rq_nC (fun s4 e4 => rq_nM (fun t12 f12 => ?_)))
  have H4 : NowG 27 s4 t12 := by
    rw [e4, f12, e10, cl_h ha, x.1, g0.1]
    exact nSaltz H hh _ (fun w => absurd w na)
  have k12 : ∀ p, p < 16 → t12.1 1 p = t10.1 1 p := fun p hp => by rw [f12, e10, x.1, pI_1, if_neg (fun z => by have := z.2; omega)]
  have r12 := k12 9 (by decide)
  refine rq_bM (hr_p a t12) (fun r13 t14 e14 => ?_)
  obtain ⟨et, e14⟩ := e14
  subst et
  refine rq_cM (fun _ => rq_nC (fun s5 e5 => rq_nM (fun t16 f16 => ?_)))
  have H5 : NowG 27 s5 t16 := by
    rw [e5, f16, e14, cl_h ha, x.2.1, (gSz H4 hh).2.1]
    exact nSugz H4 hh _ (fun w => absurd w (by rw [r12]; exact na))
  have k16 : ∀ p, p < 16 → t16.1 1 p = t10.1 1 p := fun p hp => by rw [f16, e14, x.2.1, pI_1, if_neg (fun z => by have := z.2; omega)]; exact k12 p hp
  have r16 := k16 9 (by decide)
  refine rq_bM (hr_p b t16) (fun r17 t18 e18 => ?_)
  obtain ⟨et, e18⟩ := e18
  subst et
  refine rq_cC (fun _ => rq_cM (fun _ => rq_nC (fun s7 e7 => rq_nM (fun t20 f20 => ?_))))
  have H7 : NowG 27 s7 t20 := by
    rw [e7, f20, e18, cl_h hb, y.1, (gSz H5 hj).1]
    exact nSaltz H5 hj _ (fun w => absurd w (by rw [r16]; exact nb))
  have k20 : ∀ p, p < 16 → t20.1 1 p = t10.1 1 p := fun p hp => by rw [f20, e18, y.1, pI_1, if_neg (fun z => by have := z.2; omega)]; exact k16 p hp
  have r20 := k20 9 (by decide)
  refine rq_bM (hr_p b t20) (fun r21 t22 e22 => ?_)
  obtain ⟨et, e22⟩ := e22
  subst et
  refine rq_cM (fun _ => rq_nC (fun s8 e8 => rq_nM (fun t24 f24 => rq_s ⟨rfl, ?_, fun c c1 c2 => ?_, fun p hp => ?_, ?_⟩)))
  · rw [e8, f24, e22, cl_h hb, y.2.1, (gSz H7 hj).2.1]
    exact nSugz H7 hj _ (fun w => absurd w (by rw [r20]; exact nb))
  · rw [e8, pI_o _ _ _ _ _ c2, e7, pI_o _ _ _ _ _ c1, e5, pI_o _ _ _ _ _ c2, e4, pI_o _ _ _ _ _ c1]
  · rw [f24, e22, y.2.1, pI_1, if_neg (fun z => by have := z.2; omega)]
    exact k20 p hp
  · rw [f24, pI_o _ _ _ _ _ (by decide), f20, pI_o _ _ _ _ _ (by decide), f16, pI_o _ _ _ _ _ (by decide), f12, pI_o _ _ _ _ _ (by decide)]
theorem rain_bz (m : Nat) : ∀ (m' i : Nat) (v2 v3 : Int32) (s t : Sg), v3.toInt = (i : Int) → i ≤ 8 → NowG 27 s t → RQ (f_X2_letRain_25_53_b4 m v2 v3 s) (f_X12_rains_b4 m' v2 v3 t) (fun r s' r' t' => r = r' ∧ NowG 27 s' t') := by
  induction m with
  | zero => intro m' i v2 v3 s t _ _ _ a s' b t' e; cases e
  | succ m ih =>
    intro m' i v2 v3 s t h3 hi H
    cases m' with
    | zero => exact rq_0
    | succ m' =>
      have e1 : (1 : Int32).toInt = 1 := rfl
      have e0 : (0 : Int32).toInt = 0 := rfl
      have a3 : (v3 + 1).toInt = v3.toInt + 1 := i_addx v3 1 (by omega)
      have e13 : s.1 25 13 = t.1 1 0 := e13_ H
      have b0 := H.1.1.2.1.1
      unfold f_X2_letRain_25_53_b4 f_X12_rains_b4
      rw [e13]
      refine rq_iC (fun c => rq_iM (fun _ => rq_nM (fun t1 f1 => rq_s ⟨rfl, ?_⟩)) (fun z => absurd c z)) (fun c => rq_iM (fun z => absurd z c) (fun _ => ?_))
      · rw [f1, (gFz H).2.2.2.1]
        exact ng_i (by omega) (nFldz H 10 6 _ (Or.inr (Or.inr (Or.inl ⟨rfl, rfl⟩)))) (Or.inr (Or.inr ⟨rfl, by omega⟩)) (fun _ => Or.inr rfl) (fun x hx z => absurd z (by omega))
      · have c := i_nle c
        have hh : i < 8 := by omega
        have x := hr_x h3 hh
        have g0 := gSz H hh
        have ew : s.1 25 18 = t.1 1 13 := H.1.1.2.2.1.2.1
        refine rq_bM (hr_p v3 t) (fun r2 t3 e => ?_)
        obtain ⟨et, e⟩ := e
        subst et
        refine rq_cC (fun _ => rq_cM (fun _ => rq_nC (fun x2 e2 => rq_nM (fun x5 f5 => ?_))))
        have q1 : x2 = x5 := by rw [e2, f5, e, cl_h h3, x.1, g0.1, ew]; exact min_c _ _
        subst q1
        refine rq_cM (fun _ => rq_nC (fun x3 e3 => rq_nM (fun x7 f7 => ?_)))
        have q2 : x3 = x7 := by rw [e3, f7, e, cl_h h3, x.2.1, g0.2.1, Int32.add_comm x2]
        subst q2
        refine rq_nC (fun s4 e4 => rq_nM (fun t8 f8 => rq_nM (fun t9 f9 => ih m' (i + 1) x3 (v3 + 1) s4 t9 (by omega) (by omega) ?_)))
        have z0 : bt (t3.1 1 9) i = true → t3.1 1 (16 + 3 * i) - x2 = 0 := fun w => by
          have z := (H.2.2.2 i hh w).1
          have wb := H.2.2.1.2.2.2.1
          have q : x2 = 0 := by
            rw [f5, e, x.1, z]
            by_cases y : t3.1 1 13 < 0
            · have y := i_lt y
              omega
            · rw [if_neg y]
          rw [z, q]
          rfl
        rw [e4, f9, f8, e, cl_h h3, x.1, x.2.1, pI_cm _ _ _ _ _ _ (by omega), q_nc rfl, g0.1]
        refine nSaltz (nSugz H hh 0 (fun _ => rfl)) hh _ (fun w => z0 ?_)
        rw [pI_1, if_neg (fun z => by have := z.2; omega)] at w
        exact w
theorem rains_rz {s t : Sg} (H : NowG 27 s t) : RQ (f_X2_letRain_25_53 s) (f_X12_rains t) (fun r s' r' t' => r = r' ∧ NowG 27 s' t') := by
  unfold f_X2_letRain_25_53 f_X12_rains
  exact rain_bz BIG BIG 0 0 0 s t rfl (by decide) H
theorem snow_bz (n : Int32) (m : Nat) : ∀ (m' i : Nat) (v3 : Int32) (s t : Sg), v3.toInt = (i : Int) → i ≤ 8 → NowG 27 s t → RQ (f_X2_letSnow_25_53_b2 m n v3 s) (f_X12_snows_b2 m' n v3 t) (fun _ s' _ t' => NowG 27 s' t') := by
  induction m with
  | zero => intro m' i v3 s t _ _ _ a s' b t' e; cases e
  | succ m ih =>
    intro m' i v3 s t h3 hi H
    cases m' with
    | zero => exact rq_0
    | succ m' =>
      have e1 : (1 : Int32).toInt = 1 := rfl
      have a3 : (v3 + 1).toInt = v3.toInt + 1 := i_addx v3 1 (by omega)
      have e13 : s.1 25 13 = t.1 1 0 := e13_ H
      have b0 := H.1.1.2.1.1
      unfold f_X2_letSnow_25_53_b2 f_X12_snows_b2
      rw [e13]
      refine rq_iC (fun c => rq_iM (fun _ => rq_s H) (fun z => absurd c z)) (fun c => rq_iM (fun z => absurd z c) (fun _ => ?_))
      have c := i_nle c
      have hh : i < 8 := by omega
      have x := hr_x h3 hh
      have g0 := gSz H hh
      refine rq_f (gone_c H.1.1 h3 (by omega)) (gone_m h3 (by omega) t) Iff.rfl (fun hg => ?_) (fun hg => ?_)
      · rw [if1, if1]
        exact ih m' (i + 1) (v3 + 1) s t (by omega) (by omega) H
      · rw [if0, if0]
        refine rq_bM (hr_p v3 t) (fun r3 t4 e => rq_bM (hr_p v3 t4) (fun r5 t6 f => rq_cC (fun _ => rq_cM (fun _ => rq_cM (fun _ => rq_nC (fun s4 e4 => rq_nM (fun t9 f9 => ih m' (i + 1) (v3 + 1) s4 t9 (by omega) (by omega) ?_)))))))
        obtain ⟨et, e⟩ := e
        obtain ⟨eu, f⟩ := f
        rw [e4, f9, f, e, eu, et, cl_h h3, x.2.2, g0.2.2]
        exact nSnwz H hh _ (fun w => absurd w hg)
theorem snows_rz {s t : Sg} (H : NowG 27 s t) (n : Int32) : RQ (f_X2_letSnow_25_53 n s) (f_X12_snows n t) (fun _ s' _ t' => NowG 27 s' t') := by
  unfold f_X2_letSnow_25_53 f_X12_snows
  exact snow_bz n BIG BIG 0 0 s t rfl (by decide) H
def GcM (M : Nat → Int32) (a : Int32) : Prop := 0 ≤ a.toInt ∧ a.toInt < (M 3).toInt
theorem isG_c {M : Nat → Int32} {s : Sg} (P : PlnR 24 s M) (a : Int32) : PQ (f_X11_isGrocer a s) (fun r s' => s' = s ∧ Fl (GcM M a) r) := by
  have e : s.1 25 16 = M 3 := P.1.2.2.2
  have b := P.2.1.2.2.2
  have e0 : (0 : Int32).toInt = 0 := rfl
  have e1 : (1 : Int32).toInt = 1 := rfl
  have sb := i_sub (s.1 25 16) 1
  have em := congrArg Int32.toInt e
  unfold f_X11_isGrocer
  refine pq_b (wi_p a 0 ((s.1 25 16) - 1) s) (fun r s2 g => pq_c (fun _ => pq_s ⟨g.1, ?_⟩))
  unfold Fl GcM
  rcases g.2 with q | q
  · exact Or.inl ⟨q.1, by omega, by omega⟩
  · exact Or.inr ⟨q.1, by omega⟩
theorem buy_r {s t : Sg} (H : NowG 0 s t) (a g c : Int32) : RQ (f_X11_buy a g c s) (f_X12_buy a g c t) AnS := by
  have e0 : (0 : Int32).toInt = 0 := rfl
  unfold f_X11_buy f_X12_buy
  refine rq_bC (isG_c H.1.1 a) (fun r1 s2 k => ?_)
  obtain ⟨es, k⟩ := k
  subst es
  rcases k with ⟨z, k⟩ | ⟨z, k⟩ <;> subst z
  · rw [if1]
    refine rq_iM (fun d => absurd (i_lt d) (by have := k.1; omega)) (fun _ => rq_iM (fun d => absurd (i_le d) (by have := k.2; omega)) (fun _ => ?_))
    have hg : a.toInt = (a.toInt.toNat : Int) := by have := k.1; omega
    refine rq_f (wi_p g 1 999 s2) (from_m g 1 999 t) Iff.rfl (fun hy => ?_) (fun hn => ?_)
    · rw [if1, if1]
      refine rq_f (isH_c H.1.1 c) (isH_m c t) Iff.rfl (fun hh => ?_) (fun hh => ?_)
      · rw [if1, if1]
        have n := hs_n H.1.1.2.1.1.2 hh
        refine rq_f (room_c H.1.2.1 n.1 n.2 g) (room_m n.1 n.2 g t) Iff.rfl (fun _ => ?_) (fun _ => ?_)
        · rw [if1, if1]
          have g4 : a.toInt.toNat < 4 := by
            have := H.1.1.2.1.2.2.2.2
            have := k.2
            have := k.1
            omega
          have st : s2.1 44 a.toInt.toNat = t.1 1 (92 + 3 * a.toInt.toNat) := H.1.2.1 44 _ _ (Or.inr (Or.inl ⟨g4, rfl, rfl⟩))
          refine rq_cC (fun _ => rq_cM (fun _ => ?_))
          refine rq_iC (fun d => rq_iM (fun _ => ?_) (fun z => absurd d (by rw [cl_h hg, st]; rw [(gx_x hg g4).1] at z; exact z))) (fun d => rq_iM (fun z => absurd z (by rw [(gx_x hg g4).1, ← st]; rw [cl_h hg] at d; exact d)) (fun _ => ref_r H 6))
          refine rq_f (gone_c H.1.1 n.1 (by omega)) (gone_m n.1 (by omega) t) Iff.rfl (fun hz => ?_) (fun hz => ?_)
          · rw [if1, if1]
            exact ref_r H 7
          · rw [if0, if0]
            exact rq_b2 (buys_r H hg (by have := k.2; omega) n.1 n.2 hz g) (fun r s' r' t' w => ans_r w.2 w.1)
        · rw [if0, if0]
          exact ref_r H 4
      · rw [if0, if0]
        exact ref_r H 1
    · rw [if0, if0]
      exact ref_r H 1
  · rw [if0]
    by_cases d : a < 0
    · exact rq_iM (fun _ => ref_r H 1) (fun z => absurd d z)
    · have d' := i_nlt d
      refine rq_iM (fun z => absurd z d) (fun _ => rq_iM (fun _ => ref_r H 1) (fun z => ?_))
      have z := i_nle z
      exact absurd ⟨by omega, z⟩ k
theorem sweep_r {s t : Sg} (H : NowG 0 s t) (a : Int32) : RQ (f_X11_sweep a s) (f_X12_sweep a t) AnS := by
  unfold f_X11_sweep f_X12_sweep
  refine rq_wn (whyNo_c H.1.1 a 1 (Or.inl ⟨rfl, trivial⟩)) (wrong_m a H.1.1.2.1.1.2) ?_ (fun hh hg => ?_) (fun hh hg => ?_)
  · rw [if1, if_neg (show ¬ (1 : Int32) ≤ 0 by decide)]
    exact ref_r H 1
  · rw [if_neg (show ¬ (7 : Int32) = 0 by decide), if_neg (show ¬ (7 : Int32) ≤ 0 by decide)]
    exact ref_r H 7
  · have n := hs_n H.1.1.2.1.1.2 hh
    rw [if0, if_pos (show (0 : Int32) ≤ 0 by decide)]
    exact rq_b2 (sweeps_r H n.1 n.2) (fun r s' r' t' w => ans_r w.2 w.1)
theorem shovel_r {s t : Sg} (H : NowG 0 s t) (a b g : Int32) : RQ (f_X11_shovel a b g s) (f_X12_shovel a b g t) AnS := by
  unfold f_X11_shovel f_X12_shovel
  refine rq_f (isH_c H.1.1 a) (isH_m a t) Iff.rfl (fun ha => ?_) (fun _ => ?_)
  · rw [if1, if1]
    refine rq_f (isH_c H.1.1 b) (isH_m b t) Iff.rfl (fun hb => ?_) (fun _ => ?_)
    · rw [if1, if1]
      refine rq_iC (fun d => rq_iM (fun _ => ref_r H 1) (fun z => absurd d z)) (fun d => rq_iM (fun z => absurd z d) (fun _ => ?_))
      refine rq_f (wi_p g 1 999 s) (from_m g 1 999 t) Iff.rfl (fun _ => ?_) (fun _ => ?_)
      · rw [if1, if1]
        have n := hs_n H.1.1.2.1.1.2 ha
        have n' := hs_n H.1.1.2.1.1.2 hb
        refine rq_v (ly_c H.1.2.1 n.1 n.2) (grains_m n.1 n.2 t) ?_
        refine rq_iC (fun d => rq_iM (fun _ => ?_) (fun z => absurd d z)) (fun d => rq_iM (fun z => absurd z d) (fun _ => ref_r H 6))
        refine rq_f (gone_c H.1.1 n.1 (by omega)) (gone_m n.1 (by omega) t) Iff.rfl (fun hz => ?_) (fun hz => ?_)
        · rw [if1, if1]
          exact ref_r H 7
        · rw [if0, if0]
          refine rq_f (gone_c H.1.1 n'.1 (by omega)) (gone_m n'.1 (by omega) t) Iff.rfl (fun hz' => ?_) (fun hz' => ?_)
          · rw [if1, if1]
            exact ref_r H 7
          · rw [if0, if0]
            exact rq_b2 (carry_r H n.1 n.2 n'.1 n'.2 hz hz' g) (fun r s' r' t' w => ans_r w.2.1 w.1)
      · rw [if0, if0]
        exact ref_r H 1
    · rw [if0, if0]
      exact ref_r H 1
  · rw [if0, if0]
    exact ref_r H 1
theorem rain_r {s t : Sg} (H : NowG 0 s t) : RQ (f_X11_rain s) (f_X12_rain t) AnS := by
  unfold f_X11_rain f_X12_rain
  exact rq_b2 (rains_r H) (fun r s' r' t' w => ans_r w.2 w.1)
theorem snow_r {s t : Sg} (H : NowG 0 s t) (n : Int32) : RQ (f_X11_snow n s) (f_X12_snow n t) AnS := by
  unfold f_X11_snow f_X12_snow
  have fin : ∀ {s t : Sg}, NowG 0 s t → RQ (bd (f_X11_granted s) (fun r s => ck (r = 0 ∨ r = 1) (some (r, s)))) (bd (f_X12_is 0 t) (fun r t => ck (r = 0 ∨ r = 1) (some (r, t)))) AnS := fun {s t} H => by
    unfold f_X11_granted f_X12_is
    rw [if_pos (show (0 : Int32) = 0 from rfl)]
    exact rc_s (rm_s (rq_cC (fun _ => rq_cM (fun _ => rq_s ⟨rfl, by rw [q_eq, q_eq], ng_k H (fun c hc => pI_o _ _ _ _ _ (by omega)) (fun k _ => q_nc rfl) (q_ne rfl)⟩))))
  refine rq_f (wi_p n 0 99 s) (from_m n 0 99 t) Iff.rfl (fun _ => ?_) (fun _ => ?_)
  · rw [if1, if1]
    exact rq_b2 (snows_r H n) (fun _ s' _ t' w => fin w)
  · rw [if0, if0]
    unfold f_X11_refused f_X12_is
    rw [if_neg i10]
    exact rc_s (rm_s (rq_cC (fun _ => rq_cM (fun _ => rq_s ⟨rfl, by rw [q_eq, q_eq], ng_k H (fun c hc => pI_o _ _ _ _ _ (by omega)) (fun k _ => q_nc rfl) (q_ne rfl)⟩))))
