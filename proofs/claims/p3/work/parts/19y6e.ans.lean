/-! answers: forecast, soonest, thaw, thawAll; the spare ground -/
theorem cz67 (s : Sg) : PQ (f_X11_copyRow_67_40 s) (fun _ s' => s' = pA s 67 (va_cpy (s.1 40) (s.1 67) 0 0 8)) := by
  unfold f_X11_copyRow_67_40
  exact pq_c (fun _ => pq_s (congrArg (fun n => pA s 67 (va_cpy (s.1 40) (s.1 67) 0 0 n)) (show (if 8 < (8 : Int32) then 8 else (8 : Int32)).toNatClampNeg = 8 by decide)))
theorem cz68 (s : Sg) : PQ (f_X11_copyRow_68_41 s) (fun _ s' => s' = pA s 68 (va_cpy (s.1 41) (s.1 68) 0 0 8)) := by
  unfold f_X11_copyRow_68_41
  exact pq_c (fun _ => pq_s (congrArg (fun n => pA s 68 (va_cpy (s.1 41) (s.1 68) 0 0 n)) (show (if 8 < (8 : Int32) then 8 else (8 : Int32)).toNatClampNeg = 8 by decide)))
theorem cz69 (s : Sg) : PQ (f_X11_copyRow_69_42 s) (fun _ s' => s' = pA s 69 (va_cpy (s.1 42) (s.1 69) 0 0 8)) := by
  unfold f_X11_copyRow_69_42
  exact pq_c (fun _ => pq_s (congrArg (fun n => pA s 69 (va_cpy (s.1 42) (s.1 69) 0 0 n)) (show (if 8 < (8 : Int32) then 8 else (8 : Int32)).toNatClampNeg = 8 by decide)))
theorem cz70 (s : Sg) : PQ (f_X11_copyRow_70_43 s) (fun _ s' => s' = pA s 70 (va_cpy (s.1 43) (s.1 70) 0 0 8)) := by
  unfold f_X11_copyRow_70_43
  exact pq_c (fun _ => pq_s (congrArg (fun n => pA s 70 (va_cpy (s.1 43) (s.1 70) 0 0 n)) (show (if 8 < (8 : Int32) then 8 else (8 : Int32)).toNatClampNeg = 8 by decide)))
theorem cz71 (s : Sg) : PQ (f_X11_copyRow_71_44 s) (fun _ s' => s' = pA s 71 (va_cpy (s.1 44) (s.1 71) 0 0 4)) := by
  unfold f_X11_copyRow_71_44
  exact pq_c (fun _ => pq_s (congrArg (fun n => pA s 71 (va_cpy (s.1 44) (s.1 71) 0 0 n)) (show (if 4 < (4 : Int32) then 4 else (4 : Int32)).toNatClampNeg = 4 by decide)))
def CpS (s s' : Sg) : Prop := (∀ c, ¬ c = 53 → ¬ (67 ≤ c ∧ c ≤ 71) → s'.1 c = s.1 c) ∧ (∀ k, k < 8 → s'.1 67 k = s.1 40 k ∧ s'.1 68 k = s.1 41 k ∧ s'.1 69 k = s.1 42 k ∧ s'.1 70 k = s.1 43 k) ∧ (∀ k, k < 4 → s'.1 71 k = s.1 44 k) ∧ ∀ k, 5 ≤ k → k < 13 → s'.1 53 k = s.1 26 k
theorem pA_o (s : Sg) (c : Nat) (f : Nat → Int32) (c' : Nat) (h : ¬ c' = c) : (pA s c f).1 c' = s.1 c' := by rw [pAc_1, if_neg h]
theorem pA_s (s : Sg) (c : Nat) (f : Nat → Int32) : (pA s c f).1 c = f := by rw [pAc_1, if_pos rfl]
theorem cp53 (s : Sg) : PQ (f_X2_copyFrom_26_53 s) (fun _ s' => CpS s s') := by
  unfold f_X2_copyFrom_26_53
  refine pq_b (cz67 s) (fun _ s2 e2 => pq_b (cz68 s2) (fun _ s4 e4 => pq_b (cz69 s4) (fun _ s6 e6 => pq_b (cz70 s6) (fun _ s8 e8 => pq_b (cz71 s8) (fun _ s10 e10 => pq_n (fun s11 e11 => pq_c (fun _ => pq_n (fun s13 e13 => pq_n (fun s14 e14 => pq_n (fun s15 e15 => pq_s ?_))))))))))
  have o2 : ∀ c, ¬ c = 67 → s2.1 c = s.1 c := fun c h => by rw [e2, pA_o _ _ _ _ h]
  have o4 : ∀ c, ¬ c = 68 → s4.1 c = s2.1 c := fun c h => by rw [e4, pA_o _ _ _ _ h]
  have o6 : ∀ c, ¬ c = 69 → s6.1 c = s4.1 c := fun c h => by rw [e6, pA_o _ _ _ _ h]
  have o8 : ∀ c, ¬ c = 70 → s8.1 c = s6.1 c := fun c h => by rw [e8, pA_o _ _ _ _ h]
  have o10 : ∀ c, ¬ c = 71 → s10.1 c = s8.1 c := fun c h => by rw [e10, pA_o _ _ _ _ h]
  have o11 : ∀ c, ¬ c = 53 → s11.1 c = s10.1 c := fun c h => by rw [e11, pI_o _ _ _ _ _ h, pI_o _ _ _ _ _ h]
  have o13 : ∀ c, ¬ c = 53 → s13.1 c = s11.1 c := fun c h => by rw [e13, pI_o _ _ _ _ _ h, pI_o _ _ _ _ _ h]
  have o14 : ∀ c, ¬ c = 53 → s14.1 c = s13.1 c := fun c h => by rw [e14, pI_o _ _ _ _ _ h, pI_o _ _ _ _ _ h]
  have o15 : ∀ c, ¬ c = 53 → s15.1 c = s14.1 c := fun c h => by rw [e15, pI_o _ _ _ _ _ h, pI_o _ _ _ _ _ h]
  have up : ∀ c, ¬ c = 53 → s15.1 c = s10.1 c := fun c h => (o15 c h).trans ((o14 c h).trans ((o13 c h).trans (o11 c h)))
  have lo : ∀ c, ¬ (67 ≤ c ∧ c ≤ 71) → s10.1 c = s.1 c := fun c h => (o10 c (by omega)).trans ((o8 c (by omega)).trans ((o6 c (by omega)).trans ((o4 c (by omega)).trans (o2 c (by omega)))))
  have f26 : ∀ k, s11.1 26 k = s.1 26 k ∧ s13.1 26 k = s.1 26 k ∧ s14.1 26 k = s.1 26 k ∧ s10.1 26 k = s.1 26 k := fun k => by
    have a := lo 26 (by decide)
    have b := o11 26 (by decide)
    have c := o13 26 (by decide)
    have d := o14 26 (by decide)
    exact ⟨by rw [b, a], by rw [c, b, a], by rw [d, c, b, a], by rw [a]⟩
  have g : ∀ {u v : Sg} {k k' : Nat} {x y : Int32}, v = pI (pI u 53 k x) 53 k' y → ∀ j, v.1 53 j = if j = k' then y else if j = k then x else u.1 53 j := fun {u v k k' x y} e j => by
    rw [e, pI_1, pI_1]
    by_cases z : j = k'
    · rw [if_pos ⟨rfl, z⟩, if_pos z]
    · rw [if_neg (fun w => z w.2), if_neg z]
      by_cases z2 : j = k
      · rw [if_pos ⟨rfl, z2⟩, if_pos z2]
      · rw [if_neg (fun w => z2 w.2), if_neg z2]
  refine ⟨fun c h1 h2 => (up c h1).trans (lo c h2), fun k hk => ⟨?_, ?_, ?_, ?_⟩, fun k hk => ?_, fun k k1 k2 => ?_⟩
  · rw [up 67 (by decide), o10 67 (by decide), o8 67 (by decide), o6 67 (by decide), o4 67 (by decide), e2, pA_s, va_cpy_in hk]
  · rw [up 68 (by decide), o10 68 (by decide), o8 68 (by decide), o6 68 (by decide), e4, pA_s, va_cpy_in hk, o2 41 (by decide)]
  · rw [up 69 (by decide), o10 69 (by decide), o8 69 (by decide), e6, pA_s, va_cpy_in hk, o4 42 (by decide), o2 42 (by decide)]
  · rw [up 70 (by decide), o10 70 (by decide), e8, pA_s, va_cpy_in hk, o6 43 (by decide), o4 43 (by decide), o2 43 (by decide)]
  · rw [up 71 (by decide), e10, pA_s, va_cpy_in hk, o8 44 (by decide), o6 44 (by decide), o4 44 (by decide), o2 44 (by decide)]
  · have q11 := g e11
    have q13 := g e13
    have q14 := g e14
    have q15 := g e15
    have nx : (pI s10 53 5 (s10.1 26 5)).1 26 6 = s10.1 26 6 := q_nc rfl
    have ny : (pI s11 53 7 (s11.1 26 7)).1 26 8 = s11.1 26 8 := q_nc rfl
    have nz : (pI s13 53 9 (s13.1 26 9)).1 26 10 = s13.1 26 10 := q_nc rfl
    have nw : (pI s14 53 11 (s14.1 26 11)).1 26 12 = s14.1 26 12 := q_nc rfl
    rw [q15, q14, q13, q11, nx, ny, nz, nw, (f26 5).2.2.2, (f26 6).2.2.2, (f26 7).1, (f26 8).1, (f26 9).2.1, (f26 10).2.1, (f26 11).2.2.1, (f26 12).2.2.1]
    rcases (show k = 5 ∨ k = 6 ∨ k = 7 ∨ k = 8 ∨ k = 9 ∨ k = 10 ∨ k = 11 ∨ k = 12 by omega) with z | z | z | z | z | z | z | z <;> subst z <;> rfl
/-- the spare ground stands for the one in use -/
theorem spare_r {s s' t t' : Sg} {K : Int} (H : NowG 0 s t) (D : DyE s t) (G : GnR (t.1 1) K) (c : CpS s s') (hM : ∀ p, p < 110 → t'.1 1 p = t.1 1 p) (h24 : t'.1 0 24 = t.1 0 24) : NowG 27 s' t' ∧ DyEz s' t' ∧ GnR (t'.1 1) K := by
  have x : GrX 27 s' (t'.1 1) K := grx_x (grx_an H D G) (Int.le_refl K) (fun i k hi k1 k2 => by
    rcases (show i = 2 ∨ i = 16 ∨ i = 17 ∨ i = 18 ∨ i = 19 ∨ i = 20 by omega) with z | z | z | z | z | z <;> subst z
    · exact c.2.2.2 k k1 k2
    · exact (c.2.1 k k2).1
    · exact (c.2.1 k k2).2.1
    · exact (c.2.1 k k2).2.2.1
    · exact (c.2.1 k k2).2.2.2
    · exact c.2.2.1 k k2) hM
  have pM : ∀ k, PlP k → t'.1 1 k = t.1 1 k := fun k hk => hM k (plp_lt hk).1
  have bb := H.1.1.2.1
  exact ⟨⟨⟨pln_g H.1.1 (fun k _ _ => by rw [c.1 25 (by decide) (by decide)]) (fun i k i1 i2 _ => by rw [c.1 (24 + i) (by omega) (by omega)]) pM, x.1.1, x.1.2⟩, ⟨x.2.2.1, h24.trans H.2.1.2⟩, plb_g H.2.2.1 ⟨bb.2.1.2, bb.2.2.1.2, bb.2.2.2.2⟩ pM, x.2.2.2.1⟩, x.2.1, x.2.2.2.2⟩
theorem fc_b {a w n : Int32} {h : Nat} (ha : a.toInt = (h : Int)) (hh : h < 8) (hw : 0 ≤ w.toInt ∧ w.toInt ≤ 2) (m : Nat) : ∀ (m' : Nat) (v : Int32) (s t : Sg), NowG 27 s t → RQ (f_X11_forecast_b52 m a n w v s) (f_X12_forecast_b51 m' a n w v t) AnQ := by
  induction m with
  | zero => intro m' v s t _ r s' r' t' z; cases z
  | succ m ih =>
    intro m' v s t H
    cases m' with
    | zero => intro r s' r' t' _ z; cases z
    | succ m' =>
    have x := hr_x ha hh
    have G := gSz H hh
    have e0 : (0 : Int32).toInt = 0 := rfl
    have e1 : (1 : Int32).toInt = 1 := rfl
    have e2 : (2 : Int32).toInt = 2 := rfl
    unfold f_X11_forecast_b52 f_X12_forecast_b51
    refine rq_iC (fun c => rq_iM (fun _ => ?_) (fun d => absurd c d)) (fun c => rq_iM (fun d => absurd d c) (fun _ => rq_b2 (night_rz H) (fun _ s17 _ t14 k => ih m' (v + 1) s17 t14 k.1)))
    refine rq_bM (hr_p a t) (fun r5 t6 l => rq_cM (fun _ => rq_nM (fun x8 e8 => rq_bM (P := fun _ _ => True) pq_tr (fun _ t10 _ => ?_))))
    obtain ⟨et, l⟩ := l
    rw [l, et] at e8
    refine rq_iC (fun c => rq_cC (fun _ => aq_an s t10 ?_)) (fun n0 => rq_iC (fun c => rq_cC (fun _ => aq_an s t10 ?_)) (fun n1 => rq_cC (fun _ => aq_an s t10 ?_)))
    · rw [cl_h ha, e8, c, add0, x.1]
      exact G.1
    · rw [cl_h ha, e8, c, x.2.1]
      exact G.2.1
    · have q : w = 2 := Int32.toInt_inj.mp (by
        have := i_ne n0
        have := i_ne n1
        omega)
      rw [cl_h ha, e8, q, x.2.2]
      exact G.2.2
theorem forecast_q {s t : Sg} {K : Int} (H : NowG 0 s t) (D : DyE s t) (G : GnR (t.1 1) K) (a n w : Int32) : RQ (f_X11_forecast a n w s) (f_X12_forecast a n w t) AnQ := by
  have P := H.1.1
  have b0 := P.2.1.1.2
  have e0 : (0 : Int32).toInt = 0 := rfl
  have e2 : (2 : Int32).toInt = 2 := rfl
  have no : ∀ u : Sg, u = s → RQ (f_X11_forecast_b25 a n w a u) (f_X12_forecast_b21 a n w t) AnQ := fun u hu => by
    subst hu
    unfold f_X11_forecast_b25 f_X11_forecast_b26 f_X12_forecast_b21 f_X12_forecast_b30
    refine rq_bC (whyNo_c P a 0 (Q := False) (Or.inr ⟨rfl, fun z => z⟩)) (fun r s3 k => ?_)
    obtain ⟨es, k⟩ := k
    subst es
    have k1 : r = 1 := by
      rcases k with k | k | k
      · exact k.1
      · exact k.2.1.2.elim
      · exact k.2.1.2.elim
    rw [k1, if_neg (by decide), if_neg (by decide)]
    exact aq_rf s3 t 1
  unfold f_X11_forecast f_X12_forecast
  refine rq_f (P := (0 : Int32).toInt ≤ n.toInt ∧ n.toInt ≤ (60 : Int32).toInt) (wi_p n 0 60 s) (from_m n 0 60 t) Iff.rfl (fun _ => ?_) (fun _ => ?_)
  · rw [if1, if1]
    refine rq_bC (wi_p w 0 2 s) (fun r s2 g => ?_)
    obtain ⟨es, g⟩ := g
    rcases g with ⟨z, g1, g2⟩ | ⟨z, g⟩
    · rw [z, if1, es]
      refine rq_iM (fun c => absurd (i_lt c) (by omega)) (fun _ => rq_iM (fun _ => ?_) (fun c => absurd (i_nle c) (by omega)))
      unfold f_X11_forecast_b26
      refine rq_wn (whyNo_c P a 1 (Or.inl ⟨rfl, trivial⟩)) (wrong_m a b0) ?_ (fun hh hg => ?_) (fun hh hg => ?_)
      · unfold f_X12_forecast_b30
        rw [if_neg (by decide), if_neg (by decide)]
        exact aq_rf s t 1
      · unfold f_X12_forecast_b30
        rw [if_neg (by decide), if_neg (by decide)]
        exact aq_rf s t 7
      · have hn := hs_n b0 hh
        unfold f_X12_forecast_b30
        rw [if_pos rfl, if_pos (show (0 : Int32) ≤ 0 by decide)]
        exact rq_bC (cp53 s) (fun _ s6 c => rq_bM (sv_k t) (fun _ t4 k => fc_b hn.1 hn.2 (by omega) BIG BIG 0 s6 t4 (spare_r H D G c (fun p hp => k.2.1 p (by omega)) k.1.2).1))
    · rw [z, if0]
      refine rq_iM (fun _ => no s2 es) (fun c => rq_iM (fun d => absurd ⟨?_, ?_⟩ g) (fun _ => no s2 es))
      · have := i_nlt c
        omega
      · have := i_le d
        omega
  · rw [if0, if0]
    exact no s rfl
/-! soonest -/
theorem ovr_bz {s t : Sg} (H : NowG 27 s t) : ∀ x, x < 32 → (bt (s.1 53 5) x = true ↔ ((x : Int) < (t.1 1 1).toInt ∧ t.1 1 (43 + 5 * x) = 1)) := fun x hx => by
  have o : bt (s.1 53 5) x = decide (x < 8 ∧ t.1 1 (43 + 5 * x) = 1) := H.1.2.2.2.2 x hx
  have z := H.1.2.2.2.1
  have b := H.1.1.2.1.2.1
  rw [o]
  constructor
  · intro w
    have w := of_decide_eq_true w
    refine ⟨?_, w.2⟩
    by_cases y : (x : Int) < (t.1 1 1).toInt
    · exact y
    · have q := z x w.1 (by omega)
      rw [q] at w
      exact absurd w.2 (by decide)
  · intro w
    exact decide_eq_true ⟨by omega, w.2⟩
theorem sn_b {a : Int32} {q : Nat} (ha : a.toInt = (q : Int)) (q8 : q < 8) (m : Nat) : ∀ (m' : Nat) (v : Int32) (s t : Sg), NowG 27 s t → (q : Int) < (t.1 1 1).toInt → 0 ≤ v.toInt ∧ v.toInt ≤ 61 → RQ (f_X11_soonest_b21 m a v s) (f_X12_soonest_b20 m' a v t) AnQ := by
  induction m with
  | zero => intro m' v s t _ _ _ r s' r' t' z; cases z
  | succ m ih =>
    intro m' v s t H hq hv
    cases m' with
    | zero => intro r s' r' t' _ z; cases z
    | succ m' =>
    have x := qr_x ha q8
    have e1 : (1 : Int32).toInt = 1 := rfl
    have e60 : (60 : Int32).toInt = 60 := rfl
    have e61 : (61 : Int32).toInt = 61 := rfl
    have o := ovr_bz H q (by omega)
    unfold f_X11_soonest_b21 f_X12_soonest_b20
    refine rq_iC (fun c => rq_iM (fun d => ?_) (fun d => ?_)) (fun c => rq_iM (fun d => ?_) (fun _ => ?_))
    · have c := i_lt c
      have v61 : v = 61 := Int32.toInt_inj.mp (by omega)
      unfold f_X12_soonest_b50
      refine rq_bM (P := fun _ _ => True) pq_tr (fun _ t8 _ => ?_)
      rw [if_pos v61]
      exact aq_rf s t8 6
    · exfalso
      have := i_lt c
      have := i_nle d
      omega
    · exfalso
      have := i_nlt c
      have := i_le d
      omega
    · have c := i_nlt c
      have av : (v + 1).toInt = v.toInt + (1 : Int32).toInt := i_addx _ _ (by omega)
      refine rq_bC (hsf_p ha (by omega) s) (fun r9 s10 k => rq_bM (qrow_p a t) (fun r13 t14 l => rq_cM (fun _ => ?_)))
      obtain ⟨es, k⟩ := k
      obtain ⟨et, l⟩ := l
      subst es
      subst et
      rw [l, x.2.2.2.1]
      refine rq_iC (fun d => rq_iM (fun _ => ?_) (fun z => ?_)) (fun d => rq_iM (fun z => ?_) (fun _ => ?_))
      · refine rq_b2 (rq_a (night_rz H) pq_tr (kl_night (bdk_of H))) (fun _ s12 _ t17 k => ih m' (v + 1) s12 t17 k.1.1 ?_ (by omega))
        rw [k.2.2.2.1 1 (plq (plp_0 (by decide)))]
        exact hq
      · exfalso
        rcases H.1.2.2.1 q q8 with y | y
        · exact z y
        · exact r1_n k d (o.mpr ⟨hq, y⟩)
      · exfalso
        have w := (o.mp (r1_y k d)).2
        rw [z] at w
        exact absurd w (by decide)
      · unfold f_X12_soonest_b50
        refine rq_bM (P := fun _ _ => True) pq_tr (fun _ t8 _ => ?_)
        rw [if_neg (fun z => by have := i_eq z; omega)]
        exact aq_an s10 t8 rfl
theorem soonest_q {s t : Sg} {K : Int} (H : NowG 0 s t) (D : DyE s t) (G : GnR (t.1 1) K) (a : Int32) : RQ (f_X11_soonest a s) (f_X12_soonest a t) AnQ := by
  have P := H.1.1
  have e0 : (0 : Int32).toInt = 0 := rfl
  unfold f_X11_soonest f_X12_soonest
  refine rq_f (isQ_c P a) (isQ_m a t) Iff.rfl (fun hq => ?_) (fun _ => ?_)
  · rw [if1, if1]
    have n : a.toInt = (a.toInt.toNat : Int) ∧ (a.toInt.toNat : Int) < (t.1 1 1).toInt := by
      unfold QsM at hq
      omega
    have q8 := (pln_q P n.2).1
    refine rq_bC (cp53 s) (fun _ s6 c => rq_bM (sv_k t) (fun _ t6 k => sn_b n.1 q8 BIG BIG 0 s6 t6 (spare_r H D G c (fun p hp => k.2.1 p (by omega)) k.1.2).1 ?_ (by rw [e0]; decide)))
    rw [k.2.1 1 (by decide)]
    exact n.2
  · rw [if0, if0]
    exact aq_rf s t 1
/-! thaw -/
theorem snw_c {s t : Sg} (H : NowG 27 s t) (w : Int32) (m : Nat) : ∀ (i : Nat) (v : Int32), v.toInt = (i : Int) → (i : Int) ≤ (t.1 1 0).toInt → (∀ h, h < i → bt w h = true → t.1 1 (18 + 3 * h) ≤ 0) → PQ (f_X2_hasSnow_25_53_b2 m w v s) (fun r s' => s' = s ∧ Fl (∃ h : Nat, (h : Int) < (t.1 1 0).toInt ∧ bt w h = true ∧ ¬ t.1 1 (18 + 3 * h) ≤ 0) r) := by
  induction m with
  | zero => intro i v _ _ _ r s' z; cases z
  | succ m ih =>
    intro i v hv hi h
    have P := H.1.1
    have b0 := P.2.1.1
    have e1 : (1 : Int32).toInt = 1 := rfl
    unfold f_X2_hasSnow_25_53_b2
    rw [e13_ H]
    refine pq_if (fun c => pq_s ⟨rfl, Or.inr ⟨rfl, ?_⟩⟩) (fun c => ?_)
    · have c := i_le c
      rintro ⟨x, x1, x2, x3⟩
      exact x3 (h x (by omega) x2)
    have c := i_nle c
    have i8 : i < 8 := by omega
    have av : (v + 1).toInt = ((i + 1 : Nat) : Int) := by rw [i_addx _ _ (by omega)]; omega
    have g : s.1 69 i = t.1 1 (18 + 3 * i) := (gSz H i8).2.2
    refine pq_b (hsf_p hv (by omega) s) (fun r1 s2 k => ?_)
    obtain ⟨es, k⟩ := k
    subst es
    refine pq_if (fun d => ih (i + 1) (v + 1) av (by omega) (fun x hx hb => ?_)) (fun d => pq_c (fun _ => ?_))
    · by_cases z : x = i
      · rw [z] at hb
        exact absurd hb (r1_n k d)
      · exact h x (by omega) hb
    · rw [cl_h hv, g]
      refine pq_if (fun y => ih (i + 1) (v + 1) av (by omega) (fun x hx hb => ?_)) (fun y => pq_s ⟨rfl, Or.inl ⟨rfl, i, by omega, r1_y k d, y⟩⟩)
      by_cases z : x = i
      · rw [z]; exact y
      · exact h x (by omega) hb
theorem th_b {a w : Int32} {h : Nat} (ha : a.toInt = (h : Int)) (hh : h < 8) (hw : ∀ x, x < 32 → (bt w x = true ↔ x = h)) (m : Nat) : ∀ (m' : Nat) (v : Int32) (s t : Sg), NowG 27 s t → (h : Int) < (t.1 1 0).toInt → 0 ≤ v.toInt ∧ v.toInt ≤ 61 → RQ (bd (f_X11_nightsTillThawed_b7 m w v s) (fun r3 s4 => bd (f_X11_answerIfAny r3 s4) (fun r5 s6 => some (r5, s6)))) (f_X12_thaw_b22 m' a v t) AnQ := by
  induction m with
  | zero => intro m' v s t _ _ _ r s' r' t' z; cases z
  | succ m ih =>
    intro m' v s t H hM hv
    cases m' with
    | zero => intro r s' r' t' _ z; cases z
    | succ m' =>
    have x := hr_x ha hh
    have e1 : (1 : Int32).toInt = 1 := rfl
    have em : (-1 : Int32).toInt = -1 := rfl
    have e60 : (60 : Int32).toInt = 60 := rfl
    have e61 : (61 : Int32).toInt = 61 := rfl
    have b0 := H.1.1.2.1.1
    unfold f_X11_nightsTillThawed_b7 f_X12_thaw_b22
    refine rq_iK (fun c => rq_iM (fun d => ?_) (fun d => ?_)) (fun c => rq_iM (fun d => ?_) (fun _ => ?_))
    · have c := i_lt c
      have v61 : v = 61 := Int32.toInt_inj.mp (by omega)
      unfold f_X12_thaw_b52
      refine rq_bM (P := fun _ _ => True) pq_tr (fun _ t8 _ => ?_)
      rw [if_pos v61]
      have q : RQ (bd (f_X11_answerIfAny (-1) s) (fun r5 s6 => some (r5, s6))) (bd (f_X12_refuse 6 t8) (fun r3 s4 => some (r3, s4))) AnQ := by
        unfold f_X11_answerIfAny
        rw [if_pos rfl, bd_bd]
        exact aq_rf s t8 6
      exact q
    · exfalso
      have := i_lt c
      have := i_nle d
      omega
    · exfalso
      have := i_nlt c
      have := i_le d
      omega
    · have c := i_nlt c
      have av : (v + 1).toInt = v.toInt + (1 : Int32).toInt := i_addx _ _ (by omega)
      rw [bd_bd]
      unfold f_X2_hasSnow_25_53
      refine rq_bC (snw_c H w BIG 0 0 rfl b0.1 (fun x hx => absurd hx (Nat.not_lt_zero _))) (fun r3 s4 k => rq_bM (hr_p a t) (fun r11 t12 l => rq_cM (fun _ => ?_)))
      obtain ⟨es, k⟩ := k
      obtain ⟨et, l⟩ := l
      subst es
      subst et
      rw [l, x.2.2]
      have i1 : (∃ x : Nat, (x : Int) < (t12.1 1 0).toInt ∧ bt w x = true ∧ ¬ t12.1 1 (18 + 3 * x) ≤ 0) ↔ ¬ t12.1 1 (18 + 3 * h) ≤ 0 := by
        constructor
        · rintro ⟨x, x1, x2, x3⟩
          have z := (hw x (by omega)).mp x2
          rw [z] at x3
          exact x3
        · intro z
          exact ⟨h, hM, (hw h (by omega)).mpr rfl, z⟩
      refine rq_iK (fun d => rq_iM (fun _ => ?_) (fun z => absurd (i1.mpr z) (r1_n k d))) (fun d => rq_iM (fun z => absurd z (i1.mp (r1_y k d))) (fun _ => ?_))
      · unfold f_X12_thaw_b52
        refine rq_bM (P := fun _ _ => True) pq_tr (fun _ t8 _ => ?_)
        rw [if_neg (fun z => by have := i_eq z; omega)]
        have q : RQ (bd (f_X11_answerIfAny v s4) (fun r5 s6 => some (r5, s6))) (bd (f_X12_gives v t8) (fun r3 s4 => some (r3, s4))) AnQ := by
          unfold f_X11_answerIfAny
          rw [if_neg (fun z => by have := i_eq z; omega), bd_bd]
          exact aq_an s4 t8 rfl
        exact q
      · rw [bd_bd]
        refine rq_b2 (rq_a (night_rz H) pq_tr (kl_night (bdk_of H))) (fun _ s12 _ t17 k => ih m' (v + 1) s12 t17 k.1.1 ?_ (by omega))
        rw [k.2.2.2.1 0 (plq (plp_0 (by decide)))]
        exact hM
theorem thaw_q {s t : Sg} {K : Int} (H : NowG 0 s t) (D : DyE s t) (G : GnR (t.1 1) K) (a : Int32) : RQ (f_X11_thaw a s) (f_X12_thaw a t) AnQ := by
  have P := H.1.1
  have b0 := P.2.1.1.2
  have e0 : (0 : Int32).toInt = 0 := rfl
  unfold f_X11_thaw f_X12_thaw
  refine rq_wn (whyNo_c P a 1 (Or.inl ⟨rfl, trivial⟩)) (wrong_m a b0) ?_ (fun hh hg => ?_) (fun hh hg => ?_)
  · rw [if_neg (by decide), if_neg (by decide)]
    exact aq_rf s t 1
  · rw [if_neg (by decide), if_neg (by decide)]
    exact aq_rf s t 7
  · have n := hs_n b0 hh
    rw [if_pos rfl, if_pos (show (0 : Int32) ≤ 0 by decide)]
    unfold f_X11_nightsTillThawed
    rw [bd_bd]
    refine rq_bC (cp53 s) (fun _ s6 c => rq_bM (sv_k t) (fun _ t4 k => th_b n.1 n.2 (fun x hx => ?_) BIG BIG 0 s6 t4 (spare_r H D G c (fun p hp => k.2.1 p (by omega)) k.1.2).1 ?_ (by rw [e0]; decide)))
    · rw [bitI_v n.1 (by omega), bt_bit (by omega)]
      exact ⟨fun z => of_decide_eq_true z, fun z => decide_eq_true z⟩
    · rw [k.2.1 0 (by decide), ← n.1]
      exact hh.2
/-! thawAll -/
theorem isn_m {t : Sg} (b0 : 0 ≤ (t.1 1 0).toInt ∧ (t.1 1 0).toInt ≤ 8) (m : Nat) : ∀ (i : Nat) (v : Int32), v.toInt = (i : Int) → (i : Int) ≤ (t.1 1 0).toInt → (∀ h, h < i → t.1 1 (18 + 3 * h) ≤ 0) → PQ (f_X12_isSnow_b2 m v t) (fun r t' => t' = t ∧ Fl (∃ h : Nat, (h : Int) < (t.1 1 0).toInt ∧ ¬ t.1 1 (18 + 3 * h) ≤ 0) r) := by
  induction m with
  | zero => intro i v _ _ _ r s' z; cases z
  | succ m ih =>
    intro i v hv hi h
    have e1 : (1 : Int32).toInt = 1 := rfl
    unfold f_X12_isSnow_b2
    refine pq_if (fun c => pq_s ⟨rfl, Or.inr ⟨rfl, ?_⟩⟩) (fun c => ?_)
    · have c := i_le c
      rintro ⟨x, x1, x3⟩
      exact x3 (h x (by omega))
    have c := i_nle c
    have i8 : i < 8 := by omega
    have av : (v + 1).toInt = ((i + 1 : Nat) : Int) := by rw [i_addx _ _ (by omega)]; omega
    refine pq_b (hr_p v t) (fun r1 t2 k => pq_c (fun _ => ?_))
    obtain ⟨et, k⟩ := k
    subst et
    rw [k, (hr_x hv i8).2.2]
    refine pq_if (fun y => ih (i + 1) (v + 1) av (by omega) (fun x hx => ?_)) (fun y => pq_s ⟨rfl, Or.inl ⟨rfl, i, by omega, y⟩⟩)
    by_cases z : x = i
    · rw [z]; exact y
    · exact h x (by omega)
theorem ta_b {w : Int32} {N : Int} (hw : ∀ x, x < 32 → (bt w x = true ↔ (x : Int) < N)) (m : Nat) : ∀ (m' : Nat) (v : Int32) (s t : Sg), NowG 27 s t → (t.1 1 0).toInt = N → 0 ≤ v.toInt ∧ v.toInt ≤ 61 → RQ (bd (f_X11_nightsTillThawed_b7 m w v s) (fun r3 s4 => bd (f_X11_answerIfAny r3 s4) (fun r5 s6 => some (r5, s6)))) (f_X12_thawAll_b6 m' v t) AnQ := by
  induction m with
  | zero => intro m' v s t _ _ _ r s' r' t' z; cases z
  | succ m ih =>
    intro m' v s t H hM hv
    cases m' with
    | zero => intro r s' r' t' _ z; cases z
    | succ m' =>
    have e1 : (1 : Int32).toInt = 1 := rfl
    have em : (-1 : Int32).toInt = -1 := rfl
    have e60 : (60 : Int32).toInt = 60 := rfl
    have e61 : (61 : Int32).toInt = 61 := rfl
    have b0 := H.1.1.2.1.1
    unfold f_X11_nightsTillThawed_b7 f_X12_thawAll_b6
    refine rq_iK (fun c => rq_iM (fun d => ?_) (fun d => ?_)) (fun c => rq_iM (fun d => ?_) (fun _ => ?_))
    · have c := i_lt c
      have v61 : v = 61 := Int32.toInt_inj.mp (by omega)
      unfold f_X12_thawAll_b29
      refine rq_bM (P := fun _ _ => True) pq_tr (fun _ t8 _ => ?_)
      rw [if_pos v61]
      have q : RQ (bd (f_X11_answerIfAny (-1) s) (fun r5 s6 => some (r5, s6))) (bd (f_X12_refuse 6 t8) (fun r3 s4 => some (r3, s4))) AnQ := by
        unfold f_X11_answerIfAny
        rw [if_pos rfl, bd_bd]
        exact aq_rf s t8 6
      exact q
    · exfalso
      have := i_lt c
      have := i_nle d
      omega
    · exfalso
      have := i_nlt c
      have := i_le d
      omega
    · have c := i_nlt c
      have av : (v + 1).toInt = v.toInt + (1 : Int32).toInt := i_addx _ _ (by omega)
      rw [bd_bd]
      unfold f_X2_hasSnow_25_53 f_X12_isSnow
      refine rq_f (snw_c H w BIG 0 0 rfl b0.1 (fun x hx => absurd hx (Nat.not_lt_zero _))) (isn_m b0 BIG 0 0 rfl b0.1 (fun x hx => absurd hx (Nat.not_lt_zero _))) ⟨?_, ?_⟩ (fun _ => ?_) (fun _ => ?_)
      · rintro ⟨x, x1, x2, x3⟩
        exact ⟨x, x1, x3⟩
      · rintro ⟨x, x1, x3⟩
        exact ⟨x, x1, (hw x (by omega)).mpr (by omega), x3⟩
      · rw [if1, if1, bd_bd]
        refine rq_b2 (rq_a (night_rz H) pq_tr (kl_night (bdk_of H))) (fun _ s12 _ t17 k => ih m' (v + 1) s12 t17 k.1.1 ?_ (by omega))
        rw [k.2.2.2.1 0 (plq (plp_0 (by decide)))]
        exact hM
      · rw [if0, if0]
        unfold f_X12_thawAll_b29
        refine rq_bM (P := fun _ _ => True) pq_tr (fun _ t8 _ => ?_)
        rw [if_neg (fun z => by have := i_eq z; omega)]
        have q : RQ (bd (f_X11_answerIfAny v s) (fun r5 s6 => some (r5, s6))) (bd (f_X12_gives v t8) (fun r3 s4 => some (r3, s4))) AnQ := by
          unfold f_X11_answerIfAny
          rw [if_neg (fun z => by have := i_eq z; omega), bd_bd]
          exact aq_an s t8 rfl
        exact q
theorem allh_v : ∀ n, n < 9 → ∀ x, x < 32 → bt (((1 : Int32) <<< (Int32.ofNat n &&& 31)) - 1) x = decide (x < n) := by decide +kernel
theorem thawAll_q {s t : Sg} {K : Int} (H : NowG 0 s t) (D : DyE s t) (G : GnR (t.1 1) K) : RQ (f_X11_thawAll s) (f_X12_thawAll t) AnQ := by
  have P := H.1.1
  have b0 := P.2.1.1
  have e0 : (0 : Int32).toInt = 0 := rfl
  have hn : (t.1 1 0).toInt = ((t.1 1 0).toInt.toNat : Int) := by omega
  unfold f_X11_thawAll f_X12_thawAll f_X4_allHouses f_X11_nightsTillThawed
  rw [e13_ H]
  refine rq_bC (P := fun r s' => s' = s ∧ r = ((1 : Int32) <<< ((t.1 1 0) &&& 31)) - 1) (pq_s ⟨rfl, rfl⟩) (fun r1 s2 k => ?_)
  obtain ⟨es, k⟩ := k
  subst es
  rw [bd_bd]
  refine rq_bC (cp53 s2) (fun _ s6 c => rq_bM (sv_k t) (fun _ t4 l => ta_b (N := (t.1 1 0).toInt) (fun x hx => ?_) BIG BIG 0 s6 t4 (spare_r H D G c (fun p hp => l.2.1 p (by omega)) l.1.2).1 (by rw [l.2.1 0 (by decide)]) (by rw [e0]; decide)))
  have q := allh_v (t.1 1 0).toInt.toNat (by omega) x hx
  rw [← of_nat hn (by omega)] at q
  rw [k, q]
  exact ⟨fun z => by have := of_decide_eq_true z; omega, fun z => decide_eq_true (by omega)⟩
