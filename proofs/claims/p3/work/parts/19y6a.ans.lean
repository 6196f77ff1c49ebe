/-! simple answers: told, purse, step, quarrel, grocer, peace, truce, over -/
theorem told_q {s t : Sg} (H : NowG 0 s t) (D : DyE s t) (a : Int32) : RQ (f_X11_told a s) (f_X12_told a t) AnQ := by
  have P := H.1.1
  have F := gF H
  have e10 : (10 : Int32).toInt = 10 := rfl
  have e0 : (0 : Int32).toInt = 0 := rfl
  have fin : ∀ {n : Nat} {v : Int32}, a.toInt = (n : Int) → n ≤ 10 → v = t.1 1 n → RQ (bd (f_X11_answer v s) (fun r s => some (r, s))) (f_X12_told a t) AnQ := fun {n v} ha hn hv => by
    unfold f_X12_told
    refine rq_iM (fun c => absurd (i_lt c) (by omega)) (fun _ => rq_iM (fun _ => rq_cM (fun _ => aq_an s t ?_)) (fun c => absurd (i_nle c) (by omega)))
    rw [cl_h ha]
    exact hv
  unfold f_X11_told
  refine rq_iC (fun c => fin (n := 0) (by rw [c]; rfl) (by decide) (e13_ H)) (fun c0 => rq_iC (fun c => fin (n := 1) (by rw [c]; rfl) (by decide) P.1.2.1) (fun c1 => rq_iC (fun c => fin (n := 2) (by rw [c]; rfl) (by decide) P.1.2.2.1) (fun c2 => rq_iC (fun c => fin (n := 3) (by rw [c]; rfl) (by decide) P.1.2.2.2) (fun c3 => rq_iC (fun c => fin (n := 4) (by rw [c]; rfl) (by decide) D.1) (fun c4 => rq_iC (fun c => fin (n := 5) (by rw [c]; rfl) (by decide) F.2.2.1) (fun c5 => rq_iC (fun c => fin (n := 6) (by rw [c]; rfl) (by decide) F.2.2.2.1) (fun c6 => rq_iC (fun c => fin (n := 7) (by rw [c]; rfl) (by decide) F.2.2.2.2.1) (fun c7 => rq_iC (fun c => fin (n := 8) (by rw [c]; rfl) (by decide) F.2.2.2.2.2) (fun c8 => rq_iC (fun c => fin (n := 9) (by rw [c]; rfl) (by decide) P.2.2.1.1) (fun c9 => rq_iC (fun c => ?_) (fun c10 => ?_)))))))))))
  · have e7 : s.1 26 7 = t.1 1 10 := F.1
    rw [e7]
    rcases H.2.1.1 with z | z
    · exact rq_iC (fun _ => fin (n := 10) (by rw [c]; rfl) (by decide) z.symm) (fun d => absurd z d)
    · exact rq_iC (fun d => absurd (z.symm.trans d) (by decide)) (fun _ => fin (n := 10) (by rw [c]; rfl) (by decide) z.symm)
  · unfold f_X12_told
    refine rq_iM (fun _ => aq_rf s t 1) (fun c => rq_iM (fun d => ?_) (fun _ => aq_rf s t 1))
    have c := i_nlt c
    have d := i_le d
    have x0 := i_ne c0
    have x1 := i_ne c1
    have x2 := i_ne c2
    have x3 := i_ne c3
    have x4 := i_ne c4
    have x5 := i_ne c5
    have x6 := i_ne c6
    have x7 := i_ne c7
    have x8 := i_ne c8
    have x9 := i_ne c9
    have x10 := i_ne c10
    have f1 : (1 : Int32).toInt = 1 := rfl
    have f2 : (2 : Int32).toInt = 2 := rfl
    have f3 : (3 : Int32).toInt = 3 := rfl
    have f4 : (4 : Int32).toInt = 4 := rfl
    have f5 : (5 : Int32).toInt = 5 := rfl
    have f6 : (6 : Int32).toInt = 6 := rfl
    have f7 : (7 : Int32).toInt = 7 := rfl
    have f8 : (8 : Int32).toInt = 8 := rfl
    have f9 : (9 : Int32).toInt = 9 := rfl
    omega
theorem purse_q {s t : Sg} (H : NowG 0 s t) : RQ (f_X11_purse s) (f_X12_purse t) AnQ := by
  unfold f_X11_purse f_X12_purse
  exact aq_an s t (gF H).2.1
theorem peace_q {s t : Sg} (H : NowG 0 s t) : RQ (f_X11_peace s) (f_X12_peace t) AnQ := by
  have e24 : (t.1 0 24).toInt = -1 := by rw [H.2.1.2]; rfl
  unfold f_X11_peace f_X12_peace
  refine aq_bi (s := s) (Bt := fun x => (x : Int) < (t.1 1 1).toInt ∧ pcB (t.1 1) (-1) x = true) (pq_b (peac_c H.1.1 H.2.2.1 H.1.2.1 (-1)) (fun r s2 k => bi_an k.2)) (pq_b (so_p H.1.1.2.1.2.1 (soh_0 H.1.1)) (fun r t2 k => bi_gv (fun x hx => ?_)))
  rw [k.2 x hx, e24]
theorem truce_q {s t : Sg} (H : NowG 0 s t) : RQ (f_X11_truce s) (f_X12_truce t) AnQ := by
  unfold f_X11_truce f_X12_truce
  exact aq_bi (s := s) (Bt := fun x => (x : Int) < (t.1 1 1).toInt ∧ tcB (t.1 1) x = true) (pq_b (tru_c H.1.1 H.2.2.1 H.1.2.1) (fun r s2 k => bi_an k.2)) (pq_b (so_p H.1.1.2.1.2.1 (soh_1 H.1.1 H.2.2.1 H.2.1.2)) (fun r t2 k => bi_gv k.2))
theorem ovr_b {s t : Sg} (H : NowG 0 s t) : ∀ x, x < 32 → (bt (s.1 26 5) x = true ↔ ((x : Int) < (t.1 1 1).toInt ∧ t.1 1 (43 + 5 * x) = 1)) := fun x hx => by
  have o : bt (s.1 26 5) x = decide (x < 8 ∧ t.1 1 (43 + 5 * x) = 1) := H.1.2.2.2.2 x hx
  have z := H.1.2.2.2.1
  have b := H.1.1.2.1.2.1
  rw [o]
  constructor
  · intro w
    have w := of_decide_eq_true w
    refine ⟨?_, w.2⟩
    by_cases y : (x : Int) < (t.1 1 1).toInt
    · exact y
    · have q := z x w.1 (by omega)
      rw [q] at w
      exact absurd w.2 (by decide)
  · intro w
    exact decide_eq_true ⟨by omega, w.2⟩
theorem over_q {s t : Sg} (H : NowG 0 s t) : RQ (f_X11_over s) (f_X12_over t) AnQ := by
  unfold f_X11_over f_X12_over
  exact aq_bi (s := s) (Bt := fun x => (x : Int) < (t.1 1 1).toInt ∧ t.1 1 (43 + 5 * x) = 1) (bi_an (ovr_b H)) (pq_b (so_p H.1.1.2.1.2.1 (soh_2 H.1.1)) (fun r t2 k => bi_gv k.2))
theorem sat_56 {t : Sg} {a : Int32} {h : Nat} (ha : a.toInt = (h : Int)) (b1 : 0 ≤ (t.1 1 1).toInt ∧ (t.1 1 1).toInt ≤ 8) (m : Nat) : ∀ (i : Nat) (v4 v5 : Int32), v5.toInt = (i : Int) → (i : Int) ≤ (t.1 1 1).toInt → (∀ x, x < 32 → (bt v4 x = true ↔ (x < i ∧ atB (t.1 1) x h = true))) → PQ (f_X12_step_b56 m a v4 v5 t) (BiM (fun x => (x : Int) < (t.1 1 1).toInt ∧ atB (t.1 1) x h = true)) := by
  induction m with
  | zero => intro i v4 v5 _ _ _ r t' z; cases z
  | succ m ih =>
    intro i v4 v5 h5 hi h4
    have e1 : (1 : Int32).toInt = 1 := rfl
    unfold f_X12_step_b56
    refine pq_if (fun c => bi_gv (fun x hx => ?_)) (fun c => ?_)
    · have c := i_le c
      rw [h4 x hx]
      exact ⟨fun w => ⟨by omega, w.2⟩, fun w => ⟨by omega, w.2⟩⟩
    · have c := i_nle c
      have a5 : (v5 + 1).toInt = ((i + 1 : Nat) : Int) := by rw [i_addx _ _ (by omega)]; omega
      refine pq_b (isAt_m h5 (by omega) ha t) (fun r3 t4 k => ?_)
      obtain ⟨et, k⟩ := k
      subst et
      refine pq_if (fun d => ih (i + 1) _ (v5 + 1) a5 (by omega) (fun x hx => ?_)) (fun d => pq_n (fun x5 e5 => ih (i + 1) _ (v5 + 1) a5 (by omega) (fun x hx => ?_)))
      · rw [or_0, h4 x hx]
        constructor
        · intro w; exact ⟨by omega, w.2⟩
        · intro w
          by_cases z : x = i
          · subst z
            exact absurd w.2 (r1_n k d)
          · exact ⟨by omega, w.2⟩
      · rw [e5, or_bit h5 (by omega), h4 x hx]
        constructor
        · rintro (w | w)
          · exact ⟨by omega, w.2⟩
          · subst w
            exact ⟨by omega, r1_y k d⟩
        · intro w
          by_cases z : x = i
          · exact Or.inr z
          · exact Or.inl ⟨by omega, w.2⟩
theorem step_q {s t : Sg} (H : NowG 0 s t) (a b : Int32) : RQ (f_X11_step a b s) (f_X12_step a b t) AnQ := by
  have P := H.1.1
  have b0 := P.2.1.1.2
  have e0 : (0 : Int32).toInt = 0 := rfl
  have e1 : (1 : Int32).toInt = 1 := rfl
  have e2 : (2 : Int32).toInt = 2 := rfl
  have e3 : (3 : Int32).toInt = 3 := rfl
  have r9 : ∀ u : Sg, RQ (bd (f_X11_refuse 1 u) (fun r s => some (r, s))) (f_X12_step_b9 a b t) AnQ := fun u => by
    unfold f_X12_step_b9 f_X12_step_b18
    rw [if_neg (by decide)]
    exact aq_rf u t 1
  unfold f_X11_step f_X12_step
  refine rq_bC (wi_p b 0 3 s) (fun r1 s2 g => ?_)
  obtain ⟨es, g⟩ := g
  subst es
  rcases g with ⟨z, g1, g2⟩ | ⟨z, g⟩
  · rw [z]
    refine rq_iM (fun c => absurd (i_lt c) (by omega)) (fun _ => rq_iM (fun _ => ?_) (fun c => absurd (i_nle c) (by omega)))
    refine rq_wn (whyNo_c P a 1 (Or.inl ⟨rfl, trivial⟩)) (wrong_m a b0) ?_ (fun hh hg => ?_) (fun hh hg => ?_)
    · unfold f_X12_step_b18
      rw [if_neg (by decide), if_neg (by decide)]
      exact aq_rf s2 t 1
    · unfold f_X12_step_b18
      rw [if_neg (by decide), if_neg (by decide)]
      exact aq_rf s2 t 7
    · have n := hs_n b0 hh
      have x := hr_x n.1 n.2
      have G := gS H n.2
      unfold f_X12_step_b18
      rw [if0, if_pos (show (0 : Int32) ≤ 0 by decide)]
      refine rq_iC (fun c => rq_iM (fun _ => rq_cC (fun _ => ?_)) (fun d => absurd (i_nle d) (by rw [c]; omega))) (fun n3 => rq_iM (fun d => absurd (i_le d) (by have := i_ne n3; omega)) (fun _ => rq_bM (hr_p a t) (fun r6 t7 l => ?_)))
      · rw [cl_h n.1]
        refine aq_bi (s := s2) (Bt := fun x => (x : Int) < (t.1 1 1).toInt ∧ atB (t.1 1) x a.toInt.toNat = true) (bi_an (fun x _ => qa_b P n.2 x)) (sat_56 n.1 P.2.1.2.1 BIG 0 0 0 rfl P.2.1.2.1.1 (fun x _ => ?_))
        rw [bt_0]
        exact ⟨fun z => absurd z (by decide), fun z => absurd z.1 (Nat.not_lt_zero _)⟩
      · obtain ⟨et, l⟩ := l
        subst et
        refine rq_iC (fun c => rq_cC (fun _ => rq_cM (fun _ => aq_an s2 t7 ?_))) (fun n0 => rq_iC (fun c => rq_cC (fun _ => rq_cM (fun _ => aq_an s2 t7 ?_))) (fun n1 => rq_cC (fun _ => rq_cM (fun _ => aq_an s2 t7 ?_))))
        · rw [l, cl_h n.1, c, add0, x.1]
          exact G.1
        · rw [l, cl_h n.1, c, x.2.1]
          exact G.2.1
        · have q : b = 2 := Int32.toInt_inj.mp (by
            have := i_ne n0
            have := i_ne n1
            have := i_ne n3
            omega)
          rw [l, cl_h n.1, q, x.2.2]
          exact G.2.2
  · rw [z]
    refine rq_bC (whyNo_c P a 0 (Q := False) (Or.inr ⟨rfl, fun z => z⟩)) (fun r s3 k => ?_)
    obtain ⟨es, k⟩ := k
    subst es
    have k1 : r = 1 := by
      rcases k with k | k | k
      · exact k.1
      · exact k.2.1.2.elim
      · exact k.2.1.2.elim
    rw [k1, if_neg (by decide)]
    exact rq_iM (fun _ => r9 s3) (fun c => rq_iM (fun d => absurd (i_le d) (by have := i_nlt c; omega)) (fun _ => r9 s3))
theorem quarrel_q {s t : Sg} (H : NowG 0 s t) (a b : Int32) : RQ (f_X11_quarrel a b s) (f_X12_quarrel a b t) AnQ := by
  have P := H.1.1
  have e0 : (0 : Int32).toInt = 0 := rfl
  have e1 : (1 : Int32).toInt = 1 := rfl
  have e2 : (2 : Int32).toInt = 2 := rfl
  have e3 : (3 : Int32).toInt = 3 := rfl
  have e4 : (4 : Int32).toInt = 4 := rfl
  unfold f_X11_quarrel f_X12_quarrel
  refine rq_f (isQ_c P a) (isQ_m a t) Iff.rfl (fun hq => ?_) (fun _ => ?_)
  · rw [if1, if1]
    have ha : a.toInt = (a.toInt.toNat : Int) := by
      unfold QsM at hq
      omega
    have hq' : (a.toInt.toNat : Int) < (t.1 1 1).toInt := by
      unfold QsM at hq
      omega
    have pq := pln_q P hq'
    have q8 := pq.1
    have x := qr_x ha q8
    have fin : ∀ (n : Nat) (v : Int32), b.toInt = (n : Int) → n ≤ 4 → v = t.1 1 (40 + 5 * a.toInt.toNat + n) → (((40 + 5 * a) + b).toNatClampNeg = 40 + 5 * a.toInt.toNat + n) → RQ (bd (f_X11_answer v s) (fun r s => some (r, s))) (if b < 0 then bd (f_X12_refuse 1 t) (fun r5 s6 => some (r5, s6)) else if 4 < b then bd (f_X12_refuse 1 t) (fun r7 s8 => some (r7, s8)) else bd (f_X12_quarrelRow a t) (fun r9 s10 => ck (inr (r9 + b) 2880) (bd (f_X12_gives (s10.1 1 ((r9 + b).toNatClampNeg)) s10) (fun r12 s13 => some (r12, s13))))) AnQ := fun n v hb hn hv ix => by
      refine rq_iM (fun c => absurd (i_lt c) (by omega)) (fun _ => rq_iM (fun c => absurd (i_lt c) (by omega)) (fun _ => rq_bM (qrow_p a t) (fun r9 t10 l => rq_cM (fun _ => ?_))))
      obtain ⟨et, l⟩ := l
      rw [et, l, ix]
      exact aq_an s t hv
    have cv : a.toNatClampNeg = a.toInt.toNat := cl_h ha
    refine rq_iC (fun c => rq_cC (fun _ => fin 0 _ (by rw [c]; rfl) (by decide) (by rw [cv]; exact pq.2.1.1) (by rw [c]; exact x.1))) (fun n0 => rq_iC (fun c => rq_cC (fun _ => fin 1 _ (by rw [c]; rfl) (by decide) (by rw [cv, pq.2.1.2.1, show 40 + 5 * a.toInt.toNat + 1 = 41 + 5 * a.toInt.toNat by omega]) (by rw [c, x.2.1]; omega))) (fun n1 => rq_iC (fun c => rq_cC (fun _ => fin 2 _ (by rw [c]; rfl) (by decide) (by rw [cv, pq.2.1.2.2, show 40 + 5 * a.toInt.toNat + 2 = 42 + 5 * a.toInt.toNat by omega]) (by rw [c, x.2.2.1]; omega))) (fun n2 => rq_iC (fun c => fin 3 _ (by rw [c]; rfl) (by decide) ?_ (by rw [c, x.2.2.2.1]; omega)) (fun n3 => rq_iC (fun c => rq_cC (fun _ => fin 4 _ (by rw [c]; rfl) (by decide) ?_ (by rw [c, x.2.2.2.2]; omega))) (fun n4 => ?_)))))
    · rw [sh1 _ a ha (by omega), show 40 + 5 * a.toInt.toNat + 3 = 43 + 5 * a.toInt.toNat by omega]
      have o := ovr_b H a.toInt.toNat (by omega)
      rcases H.1.2.2.1 a.toInt.toNat q8 with z | z
      · rw [if_neg (fun w => by have := (o.mp w).2; rw [z] at this; exact absurd this (by decide)), z]
      · rw [if_pos (o.mpr ⟨hq', z⟩), z]
    · rw [cv, show 40 + 5 * a.toInt.toNat + 4 = 44 + 5 * a.toInt.toNat by omega]
      exact H.1.2.1 43 a.toInt.toNat _ (Or.inl ⟨q8, Or.inr (Or.inr (Or.inr ⟨rfl, rfl⟩))⟩)
    · refine rq_iM (fun _ => aq_rf s t 1) (fun c => rq_iM (fun _ => aq_rf s t 1) (fun d => ?_))
      exfalso
      have := i_nlt c
      have := i_nlt d
      have := i_ne n0
      have := i_ne n1
      have := i_ne n2
      have := i_ne n3
      have := i_ne n4
      omega
  · rw [if0, if0]
    exact aq_rf s t 1
theorem grocer_q {s t : Sg} (H : NowG 0 s t) (a b : Int32) : RQ (f_X11_grocer a b s) (f_X12_grocer a b t) AnQ := by
  have P := H.1.1
  have b3 := P.2.1.2.2.2
  have e0 : (0 : Int32).toInt = 0 := rfl
  have e1 : (1 : Int32).toInt = 1 := rfl
  have e2 : (2 : Int32).toInt = 2 := rfl
  unfold f_X11_grocer f_X12_grocer
  refine rq_bC (isG_c P a) (fun r s2 k => ?_)
  obtain ⟨es, k⟩ := k
  subst es
  unfold GcM at k
  rcases k with ⟨z, k1, k2⟩ | ⟨z, k⟩
  · rw [z, if1]
    have ha : a.toInt = (a.toInt.toNat : Int) := by omega
    have hg : (a.toInt.toNat : Int) < (t.1 1 3).toInt := by omega
    have g4 : a.toInt.toNat < 4 := by omega
    have x := gx_x ha g4
    have pg := P.2.2.2.2.2.2 a.toInt.toNat hg
    refine rq_iM (fun c => absurd (i_lt c) (by omega)) (fun _ => rq_iM (fun c => absurd (i_le c) (by omega)) (fun _ => ?_))
    refine rq_iC (fun c => ?_) (fun n0 => rq_iC (fun c => ?_) (fun n1 => rq_iC (fun c => ?_) (fun n2 => ?_)))
    · rw [c]
      refine rq_iM (fun c => absurd c (by decide)) (fun _ => rq_iM (fun c => absurd c (by decide)) (fun _ => rq_cC (fun _ => rq_cM (fun _ => aq_an s2 t ?_))))
      rw [cl_h ha, add0, x.1]
      exact H.1.2.1 44 _ _ (Or.inr (Or.inl ⟨g4, rfl, rfl⟩))
    · rw [c]
      refine rq_iM (fun c => absurd c (by decide)) (fun _ => rq_iM (fun c => absurd c (by decide)) (fun _ => rq_cC (fun _ => rq_cM (fun _ => aq_an s2 t ?_))))
      rw [cl_h ha, x.2.1]
      exact pg.1
    · rw [c]
      refine rq_iM (fun c => absurd c (by decide)) (fun _ => rq_iM (fun c => absurd c (by decide)) (fun _ => rq_cC (fun _ => rq_cM (fun _ => aq_an s2 t ?_))))
      rw [cl_h ha, x.2.2]
      exact pg.2
    · refine rq_iM (fun _ => aq_rf s2 t 1) (fun c => rq_iM (fun _ => aq_rf s2 t 1) (fun d => ?_))
      exfalso
      have := i_nlt c
      have := i_nlt d
      have := i_ne n0
      have := i_ne n1
      have := i_ne n2
      omega
  · rw [z, if0]
    refine rq_iM (fun _ => aq_rf s2 t 1) (fun c => rq_iM (fun _ => aq_rf s2 t 1) (fun d => ?_))
    exfalso
    have := i_nlt c
    have := i_nle d
    omega
