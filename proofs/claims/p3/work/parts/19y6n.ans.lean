/-! who: printed by genw.py -/
def F21 (s0 s : Sg) : Prop := (∀ c, ¬ c = 21 → s.1 c = s0.1 c) ∧ s.2 = s0.2
def MsOk (M : Nat → Int32) (f : Nat → Int64) (k : Nat) : Prop := 0 ≤ (f k).toInt ∧ (f k).toInt ≤ (if bt (M 9) k = true then 0 else 9999)
theorem l9999 : (9999 : Int64).toInt = 9999 := rfl
theorem l0 : (0 : Int64).toInt = 0 := rfl
theorem lgc_le {x y : Int64} (h : lg_cmp x y ≤ 0) : x.toInt ≤ y.toInt := lg_ngt (fun z => by
  have := i_le h
  have := i_lt z
  omega)
theorem lgc_nle {x y : Int64} (h : ¬ lg_cmp x y ≤ 0) : y.toInt < x.toInt := lgc_gt (Int32.lt_iff_toInt_lt.mpr (by
  have := i_nle h
  omega))
theorem ix60 {a b : Int32} {T i : Nat} (ha : a.toInt = (T : Int)) (hT : T < 4) (hb : b.toInt = (i : Int)) (hi : i < 60) : ((60 * a) + b).toNatClampNeg = 60 * T + i := by
  have e60 : (60 : Int32).toInt = 60 := rfl
  have m := i_mulx 60 a (by rw [e60]; omega)
  rw [e60] at m
  exact cl_h (by rw [i_addx _ _ (by omega)]; omega)
theorem f21_p {s0 s : Sg} {M : Nat → Int32} (P : PlnR 24 s0 M) (f : F21 s0 s) : PlnR 24 s M := pln_g P (fun k _ _ => congrFun (f.1 25 (by decide)) k) (fun i k i1 i2 _ => congrFun (f.1 (24 + i) (by omega)) k) (fun _ _ => rfl)
def TmP (M : Nat → Int32) (f : Nat → Int64) (s0 : Sg) (r : Int32) (s' : Sg) : Prop := F21 s0 s' ∧ ((r = 1 ∧ ∀ k : Nat, (k : Int) < (M 0).toInt → s'.1 21 k = (f k).toInt32 ∧ MsOk M f k) ∨ (r = 0 ∧ ∃ k : Nat, (k : Int) < (M 0).toInt ∧ ¬ MsOk M f k))
theorem tm14_b {s0 : Sg} {M : Nat → Int32} (P : PlnR 24 s0 M) (m : Nat) : ∀ (i : Nat) (v3 : Int32) (s : Sg), v3.toInt = (i : Int) → (i : Int) ≤ (M 0).toInt → F21 s0 s → (∀ k, k < i → s.1 21 k = (s0.2 14 k).toInt32 ∧ MsOk M (s0.2 14) k) → PQ (f_X0_takeMissing_25_14_b2 m v3 s) (TmP M (s0.2 14) s0) := by
  induction m with
  | zero => intro i v3 s _ _ _ _ r s' z; cases z
  | succ m ih =>
    intro i v3 s h3 hi f hz
    have b0 := P.2.1.1
    have P' := f21_p P f
    have e1 : (1 : Int32).toInt = 1 := rfl
    have eN : s.1 25 13 = M 0 := Int32.toInt_inj.mp (by have q : (s.1 25 13).toInt = (M 0).toInt + 0 := P'.1.1; omega)
    unfold f_X0_takeMissing_25_14_b2
    rw [eN]
    refine pq_if (fun c => pq_s ⟨f, Or.inl ⟨rfl, fun k hk => hz k (by have := i_le c; omega)⟩⟩) (fun c => ?_)
    have c := i_nle c
    have hi' : (i : Int) < (M 0).toInt := by omega
    have a3 : (v3 + 1).toInt = ((i + 1 : Nat) : Int) := by rw [i_addx _ _ (by omega)]; omega
    have x2 : s.2 14 i = s0.2 14 i := by rw [f.2]
    have go : ∀ (lim : Int64) (L : Int), lim.toInt = L → (if bt (M 9) i = true then (0 : Int) else 9999) = L → PQ (f_X0_takeMissing_25_14_b25 (f_X0_takeMissing_25_14_b2 m) v3 lim s) (TmP M (s0.2 14) s0) := fun lim L hl hL => by
      unfold f_X0_takeMissing_25_14_b25
      refine pq_c (fun _ => ?_)
      have xv : s.2 14 v3.toNatClampNeg = s0.2 14 i := by rw [cl_h h3]; exact x2
      refine pq_if (fun d => pq_s ⟨f, Or.inr ⟨rfl, i, hi', fun w => ?_⟩⟩) (fun d => pq_if (fun e => pq_c (fun _ => pq_n (fun s5 e5 => ih (i + 1) (v3 + 1) s5 a3 (by omega) ?_ ?_))) (fun e => pq_s ⟨f, Or.inr ⟨rfl, i, hi', fun w => ?_⟩⟩))
      · rw [xv] at d
        have d := lgc_lt d
        rw [l0] at d
        have := w.1
        omega
      · rw [e5]
        exact ⟨fun c hc => by rw [pI_o _ _ _ _ _ hc]; exact f.1 c hc, f.2⟩
      · intro k hk
        rw [xv, cl_h h3] at e5
        rw [xv] at d e
        rw [e5, pI_1]
        by_cases z : k = i
        · rw [if_pos ⟨rfl, z⟩, z]
          refine ⟨rfl, ?_, ?_⟩
          · have d := lgc_nlt d
            rw [l0] at d
            exact d
          · have e := lgc_le e
            rw [hL]
            omega
        · rw [if_neg (fun y => z y.2)]
          exact hz k (by omega)
      · rw [xv] at e
        have e := lgc_nle e
        have := w.2
        rw [hL] at this
        omega
    refine pq_b (gone_c P' h3 (by omega)) (fun r1 s2 k => ?_)
    obtain ⟨es, k⟩ := k
    rw [es]
    exact pq_if (fun d => go 9999 9999 l9999 (by rw [if_neg (r1_n k d)])) (fun d => go 0 0 l0 (by rw [if_pos (r1_y k d)]))
theorem tm14_c {s : Sg} {M : Nat → Int32} (P : PlnR 24 s M) : PQ (f_X0_takeMissing_25_14 s) (TmP M (s.2 14) s) := by
  unfold f_X0_takeMissing_25_14
  exact tm14_b P BIG 0 0 s rfl P.2.1.1.1 ⟨fun _ _ => rfl, rfl⟩ (fun k hk => absurd hk (Nat.not_lt_zero k))
theorem tm15_b {s0 : Sg} {M : Nat → Int32} (P : PlnR 24 s0 M) (m : Nat) : ∀ (i : Nat) (v3 : Int32) (s : Sg), v3.toInt = (i : Int) → (i : Int) ≤ (M 0).toInt → F21 s0 s → (∀ k, k < i → s.1 21 k = (s0.2 15 k).toInt32 ∧ MsOk M (s0.2 15) k) → PQ (f_X0_takeMissing_25_15_b2 m v3 s) (TmP M (s0.2 15) s0) := by
  induction m with
  | zero => intro i v3 s _ _ _ _ r s' z; cases z
  | succ m ih =>
    intro i v3 s h3 hi f hz
    have b0 := P.2.1.1
    have P' := f21_p P f
    have e1 : (1 : Int32).toInt = 1 := rfl
    have eN : s.1 25 13 = M 0 := Int32.toInt_inj.mp (by have q : (s.1 25 13).toInt = (M 0).toInt + 0 := P'.1.1; omega)
    unfold f_X0_takeMissing_25_15_b2
    rw [eN]
    refine pq_if (fun c => pq_s ⟨f, Or.inl ⟨rfl, fun k hk => hz k (by have := i_le c; omega)⟩⟩) (fun c => ?_)
    have c := i_nle c
    have hi' : (i : Int) < (M 0).toInt := by omega
    have a3 : (v3 + 1).toInt = ((i + 1 : Nat) : Int) := by rw [i_addx _ _ (by omega)]; omega
    have x2 : s.2 15 i = s0.2 15 i := by rw [f.2]
    have go : ∀ (lim : Int64) (L : Int), lim.toInt = L → (if bt (M 9) i = true then (0 : Int) else 9999) = L → PQ (f_X0_takeMissing_25_15_b25 (f_X0_takeMissing_25_15_b2 m) v3 lim s) (TmP M (s0.2 15) s0) := fun lim L hl hL => by
      unfold f_X0_takeMissing_25_15_b25
      refine pq_c (fun _ => ?_)
      have xv : s.2 15 v3.toNatClampNeg = s0.2 15 i := by rw [cl_h h3]; exact x2
      refine pq_if (fun d => pq_s ⟨f, Or.inr ⟨rfl, i, hi', fun w => ?_⟩⟩) (fun d => pq_if (fun e => pq_c (fun _ => pq_n (fun s5 e5 => ih (i + 1) (v3 + 1) s5 a3 (by omega) ?_ ?_))) (fun e => pq_s ⟨f, Or.inr ⟨rfl, i, hi', fun w => ?_⟩⟩))
      · rw [xv] at d
        have d := lgc_lt d
        rw [l0] at d
        have := w.1
        omega
      · rw [e5]
        exact ⟨fun c hc => by rw [pI_o _ _ _ _ _ hc]; exact f.1 c hc, f.2⟩
      · intro k hk
        rw [xv, cl_h h3] at e5
        rw [xv] at d e
        rw [e5, pI_1]
        by_cases z : k = i
        · rw [if_pos ⟨rfl, z⟩, z]
          refine ⟨rfl, ?_, ?_⟩
          · have d := lgc_nlt d
            rw [l0] at d
            exact d
          · have e := lgc_le e
            rw [hL]
            omega
        · rw [if_neg (fun y => z y.2)]
          exact hz k (by omega)
      · rw [xv] at e
        have e := lgc_nle e
        have := w.2
        rw [hL] at this
        omega
    refine pq_b (gone_c P' h3 (by omega)) (fun r1 s2 k => ?_)
    obtain ⟨es, k⟩ := k
    rw [es]
    exact pq_if (fun d => go 9999 9999 l9999 (by rw [if_neg (r1_n k d)])) (fun d => go 0 0 l0 (by rw [if_pos (r1_y k d)]))
theorem tm15_c {s : Sg} {M : Nat → Int32} (P : PlnR 24 s M) : PQ (f_X0_takeMissing_25_15 s) (TmP M (s.2 15) s) := by
  unfold f_X0_takeMissing_25_15
  exact tm15_b P BIG 0 0 s rfl P.2.1.1.1 ⟨fun _ _ => rfl, rfl⟩ (fun k hk => absurd hk (Nat.not_lt_zero k))
theorem tm16_b {s0 : Sg} {M : Nat → Int32} (P : PlnR 24 s0 M) (m : Nat) : ∀ (i : Nat) (v3 : Int32) (s : Sg), v3.toInt = (i : Int) → (i : Int) ≤ (M 0).toInt → F21 s0 s → (∀ k, k < i → s.1 21 k = (s0.2 16 k).toInt32 ∧ MsOk M (s0.2 16) k) → PQ (f_X0_takeMissing_25_16_b2 m v3 s) (TmP M (s0.2 16) s0) := by
  induction m with
  | zero => intro i v3 s _ _ _ _ r s' z; cases z
  | succ m ih =>
    intro i v3 s h3 hi f hz
    have b0 := P.2.1.1
    have P' := f21_p P f
    have e1 : (1 : Int32).toInt = 1 := rfl
    have eN : s.1 25 13 = M 0 := Int32.toInt_inj.mp (by have q : (s.1 25 13).toInt = (M 0).toInt + 0 := P'.1.1; omega)
    unfold f_X0_takeMissing_25_16_b2
    rw [eN]
    refine pq_if (fun c => pq_s ⟨f, Or.inl ⟨rfl, fun k hk => hz k (by have := i_le c; omega)⟩⟩) (fun c => ?_)
    have c := i_nle c
    have hi' : (i : Int) < (M 0).toInt := by omega
    have a3 : (v3 + 1).toInt = ((i + 1 : Nat) : Int) := by rw [i_addx _ _ (by omega)]; omega
    have x2 : s.2 16 i = s0.2 16 i := by rw [f.2]
    have go : ∀ (lim : Int64) (L : Int), lim.toInt = L → (if bt (M 9) i = true then (0 : Int) else 9999) = L → PQ (f_X0_takeMissing_25_16_b25 (f_X0_takeMissing_25_16_b2 m) v3 lim s) (TmP M (s0.2 16) s0) := fun lim L hl hL => by
      unfold f_X0_takeMissing_25_16_b25
      refine pq_c (fun _ => ?_)
      have xv : s.2 16 v3.toNatClampNeg = s0.2 16 i := by rw [cl_h h3]; exact x2
      refine pq_if (fun d => pq_s ⟨f, Or.inr ⟨rfl, i, hi', fun w => ?_⟩⟩) (fun d => pq_if (fun e => pq_c (fun _ => pq_n (fun s5 e5 => ih (i + 1) (v3 + 1) s5 a3 (by omega) ?_ ?_))) (fun e => pq_s ⟨f, Or.inr ⟨rfl, i, hi', fun w => ?_⟩⟩))
      · rw [xv] at d
        have d := lgc_lt d
        rw [l0] at d
        have := w.1
        omega
      · rw [e5]
        exact ⟨fun c hc => by rw [pI_o _ _ _ _ _ hc]; exact f.1 c hc, f.2⟩
      · intro k hk
        rw [xv, cl_h h3] at e5
        rw [xv] at d e
        rw [e5, pI_1]
        by_cases z : k = i
        · rw [if_pos ⟨rfl, z⟩, z]
          refine ⟨rfl, ?_, ?_⟩
          · have d := lgc_nlt d
            rw [l0] at d
            exact d
          · have e := lgc_le e
            rw [hL]
            omega
        · rw [if_neg (fun y => z y.2)]
          exact hz k (by omega)
      · rw [xv] at e
        have e := lgc_nle e
        have := w.2
        rw [hL] at this
        omega
    refine pq_b (gone_c P' h3 (by omega)) (fun r1 s2 k => ?_)
    obtain ⟨es, k⟩ := k
    rw [es]
    exact pq_if (fun d => go 9999 9999 l9999 (by rw [if_neg (r1_n k d)])) (fun d => go 0 0 l0 (by rw [if_pos (r1_y k d)]))
theorem tm16_c {s : Sg} {M : Nat → Int32} (P : PlnR 24 s M) : PQ (f_X0_takeMissing_25_16 s) (TmP M (s.2 16) s) := by
  unfold f_X0_takeMissing_25_16
  exact tm16_b P BIG 0 0 s rfl P.2.1.1.1 ⟨fun _ _ => rfl, rfl⟩ (fun k hk => absurd hk (Nat.not_lt_zero k))
theorem tm17_b {s0 : Sg} {M : Nat → Int32} (P : PlnR 24 s0 M) (m : Nat) : ∀ (i : Nat) (v3 : Int32) (s : Sg), v3.toInt = (i : Int) → (i : Int) ≤ (M 0).toInt → F21 s0 s → (∀ k, k < i → s.1 21 k = (s0.2 17 k).toInt32 ∧ MsOk M (s0.2 17) k) → PQ (f_X0_takeMissing_25_17_b2 m v3 s) (TmP M (s0.2 17) s0) := by
  induction m with
  | zero => intro i v3 s _ _ _ _ r s' z; cases z
  | succ m ih =>
    intro i v3 s h3 hi f hz
    have b0 := P.2.1.1
    have P' := f21_p P f
    have e1 : (1 : Int32).toInt = 1 := rfl
    have eN : s.1 25 13 = M 0 := Int32.toInt_inj.mp (by have q : (s.1 25 13).toInt = (M 0).toInt + 0 := P'.1.1; omega)
    unfold f_X0_takeMissing_25_17_b2
    rw [eN]
    refine pq_if (fun c => pq_s ⟨f, Or.inl ⟨rfl, fun k hk => hz k (by have := i_le c; omega)⟩⟩) (fun c => ?_)
    have c := i_nle c
    have hi' : (i : Int) < (M 0).toInt := by omega
    have a3 : (v3 + 1).toInt = ((i + 1 : Nat) : Int) := by rw [i_addx _ _ (by omega)]; omega
    have x2 : s.2 17 i = s0.2 17 i := by rw [f.2]
    have go : ∀ (lim : Int64) (L : Int), lim.toInt = L → (if bt (M 9) i = true then (0 : Int) else 9999) = L → PQ (f_X0_takeMissing_25_17_b25 (f_X0_takeMissing_25_17_b2 m) v3 lim s) (TmP M (s0.2 17) s0) := fun lim L hl hL => by
      unfold f_X0_takeMissing_25_17_b25
      refine pq_c (fun _ => ?_)
      have xv : s.2 17 v3.toNatClampNeg = s0.2 17 i := by rw [cl_h h3]; exact x2
      refine pq_if (fun d => pq_s ⟨f, Or.inr ⟨rfl, i, hi', fun w => ?_⟩⟩) (fun d => pq_if (fun e => pq_c (fun _ => pq_n (fun s5 e5 => ih (i + 1) (v3 + 1) s5 a3 (by omega) ?_ ?_))) (fun e => pq_s ⟨f, Or.inr ⟨rfl, i, hi', fun w => ?_⟩⟩))
      · rw [xv] at d
        have d := lgc_lt d
        rw [l0] at d
        have := w.1
        omega
      · rw [e5]
        exact ⟨fun c hc => by rw [pI_o _ _ _ _ _ hc]; exact f.1 c hc, f.2⟩
      · intro k hk
        rw [xv, cl_h h3] at e5
        rw [xv] at d e
        rw [e5, pI_1]
        by_cases z : k = i
        · rw [if_pos ⟨rfl, z⟩, z]
          refine ⟨rfl, ?_, ?_⟩
          · have d := lgc_nlt d
            rw [l0] at d
            exact d
          · have e := lgc_le e
            rw [hL]
            omega
        · rw [if_neg (fun y => z y.2)]
          exact hz k (by omega)
      · rw [xv] at e
        have e := lgc_nle e
        have := w.2
        rw [hL] at this
        omega
    refine pq_b (gone_c P' h3 (by omega)) (fun r1 s2 k => ?_)
    obtain ⟨es, k⟩ := k
    rw [es]
    exact pq_if (fun d => go 9999 9999 l9999 (by rw [if_neg (r1_n k d)])) (fun d => go 0 0 l0 (by rw [if_pos (r1_y k d)]))
theorem tm17_c {s : Sg} {M : Nat → Int32} (P : PlnR 24 s M) : PQ (f_X0_takeMissing_25_17 s) (TmP M (s.2 17) s) := by
  unfold f_X0_takeMissing_25_17
  exact tm17_b P BIG 0 0 s rfl P.2.1.1.1 ⟨fun _ _ => rfl, rfl⟩ (fun k hk => absurd hk (Nat.not_lt_zero k))
/-- the reference reads the tray -/
theorem tm_m {α : Type} {t : Sg} {oC : Option (α × Sg)} {R : α → Sg → Int32 → Sg → Prop} {v1 v2 : Int32} {T : Nat} (h1 : v1.toInt = (T : Int)) (hT : T < 4) (b0 : 0 ≤ (t.1 1 0).toInt ∧ (t.1 1 0).toInt ≤ 8) (hy : (∀ k : Nat, (k : Int) < (t.1 1 0).toInt → MsOk (t.1 1) (fun k => t.2 5 (60 * T + k)) k) → RQ oC (f_X12_who_b124 BIG v1 v2 (-1) 0 t) R) (hn : (∃ k : Nat, (k : Int) < (t.1 1 0).toInt ∧ ¬ MsOk (t.1 1) (fun k => t.2 5 (60 * T + k)) k) → RQ oC (bd (f_X12_refuse 5 t) (fun r t => some (r, t))) R) (m : Nat) : ∀ (i : Nat) (v3 : Int32), v3.toInt = (i : Int) → (i : Int) ≤ (t.1 1 0).toInt → (∀ k : Nat, k < i → MsOk (t.1 1) (fun k => t.2 5 (60 * T + k)) k) → RQ oC (f_X12_who_b64 m v1 v2 v3 t) R := by
  induction m with
  | zero => intro i v3 _ _ _ r s' r' t' _ z; cases z
  | succ m ih =>
    intro i v3 h3 hi hz
    have e1 : (1 : Int32).toInt = 1 := rfl
    unfold f_X12_who_b64
    refine rq_iM (fun c => hy (fun k hk => hz k (by have := i_le c; omega))) (fun c => rq_cM (fun _ => ?_))
    have c := i_nle c
    have hi' : (i : Int) < (t.1 1 0).toInt := by omega
    have a3 : (v3 + 1).toInt = ((i + 1 : Nat) : Int) := by rw [i_addx _ _ (by omega)]; omega
    rw [ix60 h1 hT h3 (by omega)]
    have st : MsOk (t.1 1) (fun k => t.2 5 (60 * T + k)) i → ∀ k : Nat, k < i + 1 → MsOk (t.1 1) (fun k => t.2 5 (60 * T + k)) k := fun w k hk => by
      by_cases z : k = i
      · rw [z]; exact w
      · exact hz k (by omega)
    refine rq_bM (gone_m h3 (by omega) t) (fun r t2 k => ?_)
    obtain ⟨et, k⟩ := k
    rw [et]
    refine rq_iM (fun d => rq_bM (if_p _ _ _ t) (fun r3 t4 l => ?_)) (fun d => rq_bM (if_p _ _ _ t) (fun r3 t4 l => ?_))
    · obtain ⟨et4, l⟩ := l
      rw [et4]
      rw [l0, l9999] at l
      have q : MsOk (t.1 1) (fun k => t.2 5 (60 * T + k)) i ↔ (0 ≤ (t.2 5 (60 * T + i)).toInt ∧ (t.2 5 (60 * T + i)).toInt ≤ 9999) := by
        unfold MsOk
        rw [if_neg (r1_n k d)]
      exact rq_iM (fun y => hn ⟨i, hi', fun w => r1_n l y (q.mp w)⟩) (fun y => ih (i + 1) (v3 + 1) a3 (by omega) (st (q.mpr (r1_y l y))))
    · obtain ⟨et4, l⟩ := l
      rw [et4]
      rw [l0] at l
      have q : MsOk (t.1 1) (fun k => t.2 5 (60 * T + k)) i ↔ (0 ≤ (t.2 5 (60 * T + i)).toInt ∧ (t.2 5 (60 * T + i)).toInt ≤ 0) := by
        unfold MsOk
        rw [if_pos (r1_y k d)]
      exact rq_iM (fun y => hn ⟨i, hi', fun w => r1_n l y (q.mp w)⟩) (fun y => ih (i + 1) (v3 + 1) a3 (by omega) (st (q.mpr (r1_y l y))))
/-! one set of sweepers on both sides -/
def ExQ (s t : Sg) (r : Int32) (s' : Sg) (r' : Int32) (t' : Sg) : Prop := r = r' ∧ (∀ c, ¬ c = 22 → s'.1 c = s.1 c) ∧ (∀ c, ¬ c = 9 → t'.1 c = t.1 c) ∧ t'.2 = t.2
def ExI (n : Int) (T : Nat) (s0 t0 s t : Sg) : Prop := ((∀ c, ¬ c = 22 → s.1 c = s0.1 c) ∧ (∀ c, ¬ c = 9 → t.1 c = t0.1 c) ∧ t.2 = t0.2) ∧ ((∀ k : Nat, (k : Int) < n → s.1 21 k = (t.2 5 (60 * T + k)).toInt32) ∧ ∀ k : Nat, (k : Int) < n → s.1 22 k = t.1 9 k)
theorem ex_64 {n : Int} {T : Nat} {s0 t0 : Sg} {vn vT v4 : Int32} (hv : vn.toInt = n) (n8 : n ≤ 8) (h0 : t0.1 1 0 = vn) {K : Int32 → Int32 → Sg → Option (Int32 × Sg)} {K' : Int32 → Int32 → Sg → Option (Int32 × Sg)} (hK : ∀ s t, ExI n T s0 t0 s t → RQ (K vn (v4 + 1) s) (K' vT (v4 + 1) t) (ExQ s0 t0)) (m : Nat) : ∀ (m' i : Nat) (v5 v6 : Int32) (s t : Sg), v6.toInt = (i : Int) → (i : Int) ≤ n → ExI n T s0 t0 s t → RQ (f_X0_isExplained_b64 K m vn v4 v5 v6 s) (f_X12_explains_b77 K' m' vT v4 v5 v6 t) (ExQ s0 t0) := by
  induction m with
  | zero => intro m' i v5 v6 s t _ _ _ r s' r' t' z; cases z
  | succ m ih =>
    intro m' i v5 v6 s t h6 hi I
    cases m' with
    | zero => intro r s' r' t' _ z; cases z
    | succ m' =>
    have e1 : (1 : Int32).toInt = 1 := rfl
    have et0 : t.1 1 0 = vn := by rw [I.1.2.1 1 (by decide)]; exact h0
    have out : RQ (if v5 ≤ 0 then K vn (v4 + 1) s else some (0, s)) (if v5 ≤ 0 then K' vT (v4 + 1) t else some (0, t)) (ExQ s0 t0) := rq_iC (fun c => rq_iM (fun _ => hK s t I) (fun d => absurd c d)) (fun c => rq_iM (fun d => absurd d c) (fun _ => rq_s ⟨rfl, I.1⟩))
    unfold f_X0_isExplained_b64 f_X12_explains_b77
    rw [et0]
    refine rq_iC (fun c => rq_iM (fun _ => out) (fun d => absurd c d)) (fun c => rq_iM (fun d => absurd d c) (fun _ => rq_iC (fun c => rq_iM (fun _ => out) (fun d => absurd c d)) (fun c => rq_iM (fun d => absurd d c) (fun _ => ?_))))
    have c := i_nle c
    have hi' : (i : Int) < n := by omega
    have a6 : (v6 + 1).toInt = ((i + 1 : Nat) : Int) := by rw [i_addx _ _ (by omega)]; omega
    have e22 : s.1 22 i = t.1 9 i := I.2.2 i hi'
    refine rq_cC (fun _ => rq_cM (fun _ => ?_))
    rw [cl_h h6, e22]
    refine rq_nC (fun x4 e4 => rq_nC (fun s5 e5 => rq_nM (fun x5 e5' => rq_nM (fun t6 e6 => ?_))))
    rw [e5'.trans e4.symm] at e6 ⊢
    refine ih m' (i + 1) (v5 - x4) (v6 + 1) s5 t6 a6 (by omega) ⟨⟨fun c hc => ?_, fun c hc => ?_, ?_⟩, fun k hk => ?_, fun k hk => ?_⟩
    · rw [e5, pI_o _ _ _ _ _ hc]; exact I.1.1 c hc
    · rw [e6, pI_o _ _ _ _ _ hc]; exact I.1.2.1 c hc
    · rw [e6]; exact I.1.2.2
    · have e62 : t6.2 = t.2 := by rw [e6]; rfl
      rw [e62, e5, pI_o _ _ _ _ _ (by decide)]
      exact I.2.1 k hk
    · rw [e5, e6, pI_1, pI_1]
      by_cases z : k = i
      · rw [if_pos ⟨rfl, z⟩, if_pos ⟨rfl, z⟩]
      · rw [if_neg (fun y => z y.2), if_neg (fun y => z y.2)]
        exact I.2.2 k hk
theorem ex_39 {n : Int} {T : Nat} {s0 t0 : Sg} {vn vT : Int32} (hv : vn.toInt = n) (n8 : 0 ≤ n ∧ n ≤ 8) (h0 : t0.1 1 0 = vn) (hT : vT.toInt = (T : Int)) (T4 : T < 4) (m : Nat) : ∀ (m' i : Nat) (v4 : Int32) (s t : Sg), v4.toInt = (i : Int) → (i : Int) ≤ n → ExI n T s0 t0 s t → RQ (f_X0_isExplained_b39 m vn v4 s) (f_X12_explains_b41 m' vT v4 t) (ExQ s0 t0) := by
  induction m with
  | zero => intro m' i v4 s t _ _ _ r s' r' t' z; cases z
  | succ m ih =>
    intro m' i v4 s t h4 hi I
    cases m' with
    | zero => intro r s' r' t' _ z; cases z
    | succ m' =>
    have e0 : (0 : Int32).toInt = 0 := rfl
    have e1 : (1 : Int32).toInt = 1 := rfl
    have et0 : t.1 1 0 = vn := by rw [I.1.2.1 1 (by decide)]; exact h0
    unfold f_X0_isExplained_b39 f_X12_explains_b41
    rw [et0]
    refine rq_iC (fun c => rq_iM (fun _ => rq_s ⟨rfl, I.1⟩) (fun d => absurd c d)) (fun c => rq_iM (fun d => absurd d c) (fun _ => ?_))
    have c := i_nle c
    have hi' : (i : Int) < n := by omega
    have a4 : (v4 + 1).toInt = ((i + 1 : Nat) : Int) := by rw [i_addx _ _ (by omega)]; omega
    refine rq_cC (fun _ => rq_cM (fun _ => ?_))
    rw [cl_h h4, ix60 hT T4 h4 (by omega), I.2.1 i hi']
    refine rq_nC (fun x2 e2 => rq_nM (fun y2 f2 => rq_nM (fun y3 f3 => ?_)))
    rw [f2, f3, ← e2]
    have d4 : (v4 - 1).toInt = v4.toInt - (1 : Int32).toInt := i_subx _ _ (by omega)
    have hx : x2.toInt = ((i - 1 : Nat) : Int) := by
      rw [e2]
      by_cases z : 0 < v4 - 1
      · have := i_lt z
        rw [if_pos z]
        omega
      · have := i_nlt z
        rw [if_neg z]
        omega
    exact ex_64 hv n8.2 h0 (fun s' t' I' => ih m' (i + 1) (v4 + 1) s' t' a4 (by omega) I') BIG BIG (i - 1) _ x2 s t hx (by omega) I
theorem ex_3c {n : Int} {s0 : Sg} {vn x a : Int32} (hv : vn.toInt = n) (n8 : 0 ≤ n ∧ n ≤ 8) {β : Type} {oM : Option (β × Sg)} {R : Int32 → Sg → β → Sg → Prop} (h : ∀ s, (∀ c, ¬ c = 22 → s.1 c = s0.1 c) → (∀ k : Nat, (k : Int) < n → s.1 22 k = if bt x k = true then a else 0) → RQ (f_X0_isExplained_b39 BIG vn 0 s) oM R) (m : Nat) : ∀ (i : Nat) (v4 : Int32) (s : Sg), v4.toInt = (i : Int) → (i : Int) ≤ n → (∀ c, ¬ c = 22 → s.1 c = s0.1 c) → (∀ k, k < i → s.1 22 k = if bt x k = true then a else 0) → RQ (f_X0_isExplained_b3 m vn x a v4 s) oM R := by
  induction m with
  | zero => intro i v4 s _ _ _ _ r s' r' t' z; cases z
  | succ m ih =>
    intro i v4 s h4 hi hf hz
    have e1 : (1 : Int32).toInt = 1 := rfl
    unfold f_X0_isExplained_b3
    refine rq_iC (fun c => h s hf (fun k hk => hz k (by have := i_le c; omega))) (fun c => ?_)
    have c := i_nle c
    have a4 : (v4 + 1).toInt = ((i + 1 : Nat) : Int) := by rw [i_addx _ _ (by omega)]; omega
    have sb := sh1_0 x v4 h4 (show i < 32 by omega)
    have nx : ∀ w : Int32, w = (if bt x i = true then a else 0) → RQ (f_X0_isExplained_b3 m vn x a (v4 + 1) (pI s 22 v4.toNatClampNeg w)) oM R := fun w hw => ih (i + 1) (v4 + 1) _ a4 (by omega) (fun c hc => by rw [pI_o _ _ _ _ _ hc]; exact hf c hc) (fun k hk => by
      rw [pI_1, cl_h h4]
      by_cases z : k = i
      · rw [if_pos ⟨rfl, z⟩, hw, z]
      · rw [if_neg (fun y => z y.2)]
        exact hz k (by omega))
    refine rq_bC (has_p x v4 s) (fun r6 s7 k => ?_)
    obtain ⟨es, k⟩ := k
    rw [es]
    refine rq_iC (fun d => rq_cC (fun _ => nx 0 ?_)) (fun d => rq_cC (fun _ => nx a ?_))
    · rw [if_neg (sb.mp (Classical.not_not.mp (r1_n k d)))]
    · rw [if_pos (Classical.byContradiction (fun z => r1_y k d (sb.mpr z)))]
theorem ex_3m {t0 : Sg} {x a vT : Int32} {α : Type} {oC : Option (α × Sg)} {R : α → Sg → Int32 → Sg → Prop} (h : ∀ t, (∀ c, ¬ c = 9 → t.1 c = t0.1 c) → t.2 = t0.2 → (∀ k : Nat, k < 8 → t.1 9 k = if bt x k = true then a else 0) → RQ oC (f_X12_explains_b41 BIG vT 0 t) R) (m : Nat) : ∀ (i : Nat) (v4 : Int32) (t : Sg), v4.toInt = (i : Int) → i ≤ 8 → (∀ c, ¬ c = 9 → t.1 c = t0.1 c) → t.2 = t0.2 → (∀ k, k < i → t.1 9 k = if bt x k = true then a else 0) → RQ oC (f_X12_explains_b3 m x vT a v4 t) R := by
  induction m with
  | zero => intro i v4 t _ _ _ _ _ r s' r' t' _ z; cases z
  | succ m ih =>
    intro i v4 t h4 hi hf h2 hz
    have e1 : (1 : Int32).toInt = 1 := rfl
    have e8 : (8 : Int32).toInt = 8 := rfl
    unfold f_X12_explains_b3
    refine rq_iM (fun c => h t hf h2 (fun k hk => hz k (by have := i_le c; omega))) (fun c => ?_)
    have c := i_nle c
    have a4 : (v4 + 1).toInt = ((i + 1 : Nat) : Int) := by rw [i_addx _ _ (by omega)]; omega
    have sb := sh1_1 x v4 h4 (show i < 32 by omega)
    have nx : ∀ w : Int32, w = (if bt x i = true then a else 0) → RQ oC (f_X12_explains_b3 m x vT a (v4 + 1) (pI t 9 v4.toNatClampNeg w)) R := fun w hw => ih (i + 1) (v4 + 1) _ a4 (by omega) (fun c hc => by rw [pI_o _ _ _ _ _ hc]; exact hf c hc) h2 (fun k hk => by
      rw [pI_1, cl_h h4]
      by_cases z : k = i
      · rw [if_pos ⟨rfl, z⟩, hw, z]
      · rw [if_neg (fun y => z y.2)]
        exact hz k (by omega))
    refine rq_iM (fun d => rq_cM (fun _ => nx a ?_)) (fun d => rq_cM (fun _ => nx 0 ?_))
    · rw [if_pos (sb.mp d)]
    · rw [if_neg (fun z => d (sb.mpr z))]
theorem ex_r {s t : Sg} {T : Nat} {vT : Int32} (b0 : 0 ≤ (t.1 1 0).toInt ∧ (t.1 1 0).toInt ≤ 8) (hT : vT.toInt = (T : Int)) (T4 : T < 4) (h21 : ∀ k : Nat, (k : Int) < (t.1 1 0).toInt → s.1 21 k = (t.2 5 (60 * T + k)).toInt32) (x a : Int32) : RQ (f_X0_isExplained (t.1 1 0) x a s) (f_X12_explains x vT a t) (ExQ s t) := by
  unfold f_X0_isExplained f_X12_explains
  refine ex_3c rfl b0 (fun s1 f1 z1 => ex_3m (fun t1 f2 g2 z2 => ex_39 rfl b0 rfl hT T4 BIG BIG 0 0 s1 t1 rfl b0.1 ⟨⟨f1, f2, g2⟩, fun k hk => ?_, fun k hk => ?_⟩) BIG 0 0 t rfl (by decide) (fun _ _ => rfl) rfl (fun k hk => absurd hk (Nat.not_lt_zero k))) BIG 0 0 s rfl b0.1 (fun _ _ => rfl) (fun k hk => absurd hk (Nat.not_lt_zero k))
  · rw [f1 21 (by decide), g2]
    exact h21 k hk
  · rw [z1 k hk, z2 k (by omega)]
theorem bc_le : ∀ q : Nat, q < 9 → ∀ n : Nat, n < 2 ^ q → (bcV (Int32.ofNat n)).toInt ≤ (q : Int) := by decide +kernel
theorem fw_b {T : Nat} {vT a vn : Int32} (hT : vT.toInt = (T : Int)) (T4 : T < 4) (m : Nat) : ∀ (m' : Nat) (v3 v4 v5 : Int32) (s t : Sg), t.1 1 0 = vn → (0 ≤ vn.toInt ∧ vn.toInt ≤ 8) → (∀ k : Nat, (k : Int) < vn.toInt → s.1 21 k = (t.2 5 (60 * T + k)).toInt32) → (0 ≤ v5.toInt ∧ v5.toInt ≤ ((1 : Int32) <<< (vn &&& 31)).toInt) → ((v3 = -1 ∧ v4 = vn + 1) ∨ ((0 ≤ v3.toInt ∧ v3.toInt < 256) ∧ v4 = bcV v3)) → RQ (bd (f_X0_fewestSweepers_b10 m vn a v3 v4 v5 s) (fun r1 s2 => bd (f_X11_answerIfAny r1 s2) (fun r3 s4 => some (r3, s4)))) (f_X12_who_b124 m' vT a v3 v5 t) AnQ := by
  induction m with
  | zero => intro m' v3 v4 v5 s t _ _ _ _ _ r s' r' t' z; cases z
  | succ m ih =>
    intro m' v3 v4 v5 s t h0 b0 h21 h5 h3
    cases m' with
    | zero => intro r s' r' t' _ z; cases z
    | succ m' =>
    have e1 : (1 : Int32).toInt = 1 := rfl
    have xb := shq_x b0
    unfold f_X0_fewestSweepers_b10 f_X12_who_b124
    rw [h0]
    refine rq_iK (fun c => rq_iM (fun _ => any_q s t v3) (fun d => absurd c d)) (fun c => rq_iM (fun d => absurd d c) (fun _ => ?_))
    have c := i_nle c
    have a5 : (v5 + 1).toInt = v5.toInt + (1 : Int32).toInt := i_addx _ _ (by omega)
    have c5 : 0 ≤ v5.toInt ∧ v5.toInt < 256 := by omega
    rw [bd_bd]
    refine rq_bC (bc_p v5 s) (fun r1 s2 k => ?_)
    obtain ⟨es, k⟩ := k
    rw [es, k]
    have go : RQ (bd (bd (f_X0_isExplained vn v5 a s) (fun r3 s4 => if r3 = 0 then f_X0_fewestSweepers_b10 m vn a v3 v4 (v5 + 1) s4 else f_X0_fewestSweepers_b10 m vn a v5 (bcV v5) (v5 + 1) s4)) (fun r1 s2 => bd (f_X11_answerIfAny r1 s2) (fun r3 s4 => some (r3, s4)))) (f_X12_who_b154 (f_X12_who_b124 m') vT a v3 v5 t) AnQ := by
      unfold f_X12_who_b154
      rw [bd_bd]
      have er := ex_r (s := s) (t := t) (by rw [h0]; exact b0) hT T4 (by rw [h0]; exact h21) v5 a
      rw [h0] at er
      refine rq_b2 er (fun r s' r' t' q => ?_)
      obtain ⟨q1, q2, q3, q4⟩ := q
      rw [q1]
      have h0' : t'.1 1 0 = vn := by rw [q3 1 (by decide)]; exact h0
      have h21' : ∀ k : Nat, (k : Int) < vn.toInt → s'.1 21 k = (t'.2 5 (60 * T + k)).toInt32 := fun k hk => by
        rw [q2 21 (by decide), q4]
        exact h21 k hk
      exact rq_iK (fun d => rq_iM (fun _ => ih m' v3 v4 (v5 + 1) s' t' h0' b0 h21' (by omega) h3) (fun z => absurd d z)) (fun d => rq_iM (fun z => absurd z d) (fun _ => ih m' v5 _ (v5 + 1) s' t' h0' b0 h21' (by omega) (Or.inr ⟨c5, rfl⟩)))
    rcases h3 with ⟨z3, z4⟩ | ⟨z3, z4⟩
    · rw [if_pos z3]
      refine rq_iK (fun d => ?_) (fun _ => go)
      exfalso
      have d := i_le d
      have av : (vn + 1).toInt = vn.toInt + (1 : Int32).toInt := i_addx _ _ (by omega)
      have e : v5 = Int32.ofNat v5.toInt.toNat := Int32.toInt_inj.mp (by rw [Int32.toInt_ofNat_of_lt (by omega)]; omega)
      have ev : vn = Int32.ofNat vn.toInt.toNat := of_nat (by omega) (by omega)
      have p : ((1 : Int32) <<< (vn &&& 31)).toInt = ((2 ^ vn.toInt.toNat : Nat) : Int) := by
        have q := sh_p vn.toInt.toNat (by omega)
        rw [← ev] at q
        exact q
      have u0 : v5.toInt.toNat < 2 ^ vn.toInt.toNat := by
        generalize 2 ^ vn.toInt.toNat = N at p
        rw [p] at c
        omega
      have l := bc_le vn.toInt.toNat (by omega) v5.toInt.toNat u0
      rw [← e] at l
      rw [z4] at d
      omega
    · have n3 : ¬ v3 = -1 := fun z => by
        rw [z] at z3
        exact absurd z3.1 (by decide)
      rw [if_neg n3]
      refine rq_bM (bits_m c5 t) (fun r16 t17 l => ?_)
      obtain ⟨et, l⟩ := l
      rw [et]
      refine rq_bM (bits_m z3 t) (fun r18 t19 l2 => ?_)
      obtain ⟨et2, l2⟩ := l2
      rw [et2, l, l2, ← z4]
      exact rq_iK (fun d => rq_iM (fun _ => ih m' v3 v4 (v5 + 1) s t h0 b0 h21 (by omega) (Or.inr ⟨z3, z4⟩)) (fun z => absurd d z)) (fun d => rq_iM (fun z => absurd z d) (fun _ => go))
theorem tray_f (a : Int32) (s : Sg) : PQ (f_X11_isTray a s) (fun r s' => s' = s ∧ Fl (0 ≤ a.toInt ∧ a.toInt ≤ 3) r) := by
  unfold f_X11_isTray
  exact pq_b (wi_p a 0 3 s) (fun r s' k => pq_c (fun _ => pq_s k))
theorem tray_g (a : Int32) (t : Sg) : PQ (f_X12_isTray a t) (fun r t' => t' = t ∧ Fl (0 ≤ a.toInt ∧ a.toInt ≤ 3) r) := by
  have e0 : (0 : Int32).toInt = 0 := rfl
  have e4 : (4 : Int32).toInt = 4 := rfl
  unfold f_X12_isTray
  refine pq_if (fun c => pq_s ⟨rfl, Or.inr ⟨rfl, fun z => ?_⟩⟩) (fun c => pq_if (fun d => pq_s ⟨rfl, Or.inr ⟨rfl, fun z => ?_⟩⟩) (fun d => pq_s ⟨rfl, Or.inl ⟨rfl, ?_⟩⟩))
  · have := i_lt c
    omega
  · have := i_le d
    omega
  · have := i_nlt c
    have := i_nle d
    omega
theorem who_t {s t : Sg} (H : NowG 0 s t) {a vT : Int32} {T : Nat} (hT : vT.toInt = (T : Int)) (T4 : T < 4) (R : TrR T s t) {oT : Option (Int32 × Sg)} (tm : PQ oT (TmP (t.1 1) (s.2 (14 + T)) s)) : RQ (if s.1 (10 + T) 1 = 0 then bd (f_X11_refuse 2 s) (fun r s => some (r, s)) else if s.1 25 13 ≤ s.1 (10 + T) 3 then bd oT (fun r12 s13 => if r12 = 0 then bd (f_X11_refuse 5 s13) (fun r s => some (r, s)) else bd (f_X0_fewestSweepers (s13.1 25 13) a s13) (fun r16 s17 => bd (f_X11_answerIfAny r16 s17) (fun r s => some (r, s)))) else bd (f_X11_refuse 3 s) (fun r s => some (r, s))) (if t.1 4 vT.toNatClampNeg = -1 then bd (f_X12_refuse 2 t) (fun r t => some (r, t)) else if t.1 1 0 ≤ t.1 4 vT.toNatClampNeg then f_X12_who_b64 BIG vT a 0 t else bd (f_X12_refuse 3 t) (fun r t => some (r, t))) AnQ := by
  have b0 := H.1.1.2.1.1
  rw [cl_h hT, e13_ H]
  rcases R with ⟨r1, r2⟩ | ⟨r1, r2, _, r4, r5⟩
  · rw [if_pos r1, if_pos r2]
    exact aq_rf s t 2
  · have n4 : ¬ t.1 4 T = -1 := fun z => by
      rw [r2] at z
      rw [z] at r4
      exact absurd r4.1 (by decide)
    rw [if_neg r1, if_neg n4, r2]
    refine rq_iC (fun c => rq_iM (fun _ => ?_) (fun d => absurd c d)) (fun c => rq_iM (fun d => absurd d c) (fun _ => aq_rf s t 3))
    have c := i_le c
    have eqv : ∀ k : Nat, (k : Int) < (t.1 1 0).toInt → t.2 5 (60 * T + k) = s.2 (14 + T) k := fun k hk => r5 k (by omega)
    have ms : ∀ k : Nat, (k : Int) < (t.1 1 0).toInt → (MsOk (t.1 1) (fun k => t.2 5 (60 * T + k)) k ↔ MsOk (t.1 1) (s.2 (14 + T)) k) := fun k hk => by
      have e : (fun k => t.2 5 (60 * T + k)) k = s.2 (14 + T) k := eqv k hk
      unfold MsOk
      rw [e]
    refine rq_bC tm (fun r12 s13 k => ?_)
    obtain ⟨f, k⟩ := k
    have e13 : s13.1 25 13 = t.1 1 0 := by rw [f.1 25 (by decide)]; exact e13_ H
    refine tm_m hT T4 b0 (fun hy => ?_) (fun hn => ?_) BIG 0 0 rfl b0.1 (fun k hk => absurd hk (Nat.not_lt_zero k))
    · rcases k with ⟨z, k⟩ | ⟨_, j, j1, j2⟩
      · rw [z, if1, e13]
        unfold f_X0_fewestSweepers
        exact fw_b hT T4 BIG BIG (-1) _ 0 s13 t rfl b0 (fun k' hk' => by rw [(k k' hk').1, eqv k' hk']) ⟨by decide, by have := shq_x b0; have e0 : (0 : Int32).toInt = 0 := rfl; omega⟩ (Or.inl ⟨rfl, rfl⟩)
      · exact absurd ((ms j j1).mp (hy j j1)) j2
    · rcases k with ⟨_, k⟩ | ⟨z, _⟩
      · obtain ⟨j, j1, j2⟩ := hn
        exact absurd ((ms j j1).mpr (k j j1).2) j2
      · rw [z, if0]
        exact aq_rf s13 t 5
theorem who_q {s t : Sg} (H : NowG 0 s t) (R : ∀ T, T < 4 → TrR T s t) (a b : Int32) : RQ (f_X11_who a b s) (f_X12_who a b t) AnQ := by
  have P := H.1.1
  unfold f_X11_who f_X12_who
  refine rq_f (tray_f a s) (tray_g a t) Iff.rfl (fun ht => ?_) (fun _ => ?_)
  · rw [if1, if1]
    refine rq_f (P := (1 : Int32).toInt ≤ b.toInt ∧ b.toInt ≤ (999 : Int32).toInt) (wi_p b 1 999 s) (from_m b 1 999 t) Iff.rfl (fun _ => ?_) (fun _ => ?_)
    · rw [if1, if1]
      refine rq_cC (fun _ => rq_cM (fun _ => ?_))
      rcases (show a.toInt = 0 ∨ a.toInt = 1 ∨ a.toInt = 2 ∨ a.toInt = 3 by omega) with z | z | z | z
      · have e : a = 0 := Int32.toInt_inj.mp z
        subst e
        exact who_t (T := 0) H rfl (by decide) (R 0 (by decide)) (tm14_c P)
      · have e : a = 1 := Int32.toInt_inj.mp z
        subst e
        exact who_t (T := 1) H rfl (by decide) (R 1 (by decide)) (tm15_c P)
      · have e : a = 2 := Int32.toInt_inj.mp z
        subst e
        exact who_t (T := 2) H rfl (by decide) (R 2 (by decide)) (tm16_c P)
      · have e : a = 3 := Int32.toInt_inj.mp z
        subst e
        exact who_t (T := 3) H rfl (by decide) (R 3 (by decide)) (tm17_c P)
    · rw [if0, if0]
      exact aq_rf s t 1
  · rw [if0, if0]
    exact aq_rf s t 1
