/-! truce on both sides; the test of an IF -/
/-- a grain at a house, or as much as it needs -/
def smB (M : Nat → Int32) (q h : Nat) (g : Int32) : Bool := if bt (M 9) h = true then decide (M 14 = 1) else decide (0 < (lf M (-1) h g q).toInt)
def tcB (M : Nat → Int32) (q : Nat) : Bool := smB M q (h0 M q) (sgM M (h0 M q)) && smB M q (h1 M q) (sgM M (h1 M q))
theorem nd_m1 (M : Nat → Int32) (q : Nat) : nd M (-1) q = M (42 + 5 * q) := by
  unfold nd
  rw [if_neg (by omega)]
theorem hs_pos (M : Nat → Int32) (q h : Nat) (hN : 1 ≤ (M (42 + 5 * q)).toInt) : (hsM M (-1) q h ≤ 0) ↔ ¬ 0 < (lf M (-1) h (sgM M h) q).toInt := by
  have e0 : (0 : Int32).toInt = 0 := rfl
  unfold hsM
  rw [nd_m1]
  by_cases c : M (42 + 5 * q) < lf M (-1) h (sgM M h) q
  · rw [if_pos c]
    have c := i_lt c
    constructor
    · intro w
      have w := i_le w
      omega
    · intro w
      exact absurd (show 0 < (lf M (-1) h (sgM M h) q).toInt by omega) w
  · rw [if_neg c]
    constructor
    · intro w
      have w := i_le w
      omega
    · intro w
      exact Int32.le_iff_toInt_le.mpr (by omega)
theorem some_m {a b : Int32} {q j : Nat} (ha : a.toInt = (q : Int)) (hq : q < 8) (hj : (b = 0 ∧ j = 40 + 5 * q) ∨ (b = 1 ∧ j = 41 + 5 * q)) (t : Sg) (h24 : t.1 0 24 = -1) (hN : 1 ≤ (t.1 1 (42 + 5 * q)).toInt) (hb : 0 ≤ (t.1 1 j).toInt ∧ (t.1 1 j).toInt < 8) : PQ (f_X12_isSome a b t) (fun r t' => t' = t ∧ Fl (smB (t.1 1) q (t.1 1 j).toInt.toNat (sgM (t.1 1) (t.1 1 j).toInt.toNat) = true) r) := by
  have x := qr_x ha hq
  have hn : (t.1 1 j).toInt = ((t.1 1 j).toInt.toNat : Int) := by omega
  have h8 : (t.1 1 j).toInt.toNat < 8 := by omega
  have e24 : (t.1 0 24).toInt = -1 := by rw [h24]; rfl
  unfold f_X12_isSome
  refine pq_b (qh_p a b t) (fun r1 t2 k => pq_c (fun _ => ?_))
  obtain ⟨et, k⟩ := k
  subst et
  have dj : r1.toNatClampNeg = j := by
    rw [k]
    rcases hj with w | w
    · rw [w.1, w.2]; exact x.1
    · rw [w.1, w.2]; exact x.2.1
  rw [dj]
  refine pq_b (gone_m hn (by omega) t2) (fun r4 t5 g => ?_)
  obtain ⟨et, g⟩ := g
  subst et
  unfold smB
  refine pq_if (fun c => pq_b (has_m ha hq hn h8 t5) (fun r6 t7 l => ?_)) (fun c => ?_)
  · obtain ⟨et, l⟩ := l
    subst et
    rw [e24] at l
    have hp := hs_pos (t7.1 1) q (t7.1 1 j).toInt.toNat hN
    rw [← l] at hp
    rw [if_neg (r1_n g c)]
    exact pq_f0 ⟨fun w z => hp.mp w (of_decide_eq_true z), fun w => hp.mpr (fun z => w (decide_eq_true z))⟩
  · rw [if_pos (r1_y g c)]
    exact pq_fl ⟨fun w => decide_eq_true w, fun w => of_decide_eq_true w⟩
theorem soh_1 {s t : Sg} (P : PlnR 24 s (t.1 1)) (B : PlB (t.1 1)) (h24 : t.1 0 24 = -1) : SoH t 1 (fun q => tcB (t.1 1) q = true) := fun k v2 v3 q Q h3 hq hk => by
  unfold SoB
  rw [if_neg (by decide), if_pos rfl]
  have en := ends_h P hq
  have q8 := en.2.2.2.2
  have E := (pln_q P hq).2.2.1
  have N := (B.1 q hq).1
  refine pq_b (some_m h3 q8 (Or.inl ⟨rfl, rfl⟩) t h24 N E.1) (fun r t2 g => ?_)
  obtain ⟨et, g⟩ := g
  subst et
  refine pq_if (fun c => ?_) (fun c => pq_b (some_m h3 q8 (Or.inr ⟨rfl, rfl⟩) t2 h24 N E.2) (fun r6 t7 f => ?_))
  · unfold f_X12_setOf_b53
    exact so_90 h3 (by omega) (Or.inr ⟨rfl, fun w => r1_n g c (Bool.and_eq_true_iff.mp w).1⟩) hk
  · obtain ⟨et, f⟩ := f
    subst et
    refine pq_if (fun d => ?_) (fun d => so_90 h3 (by omega) (Or.inl ⟨rfl, Bool.and_eq_true_iff.mpr ⟨r1_y g c, r1_y f d⟩⟩) hk)
    unfold f_X12_setOf_b53
    exact so_90 h3 (by omega) (Or.inr ⟨rfl, fun w => r1_n f d (Bool.and_eq_true_iff.mp w).2⟩) hk
/-! truce, as the class has it -/
theorem lf_np {M : Nat → Int32} (B : PlB M) (h : Nat) (g : Int32) {i : Nat} (hi : (lf M (-1) h g i).toInt ≤ 0) : ∀ k : Nat, (i : Int) + (k : Int) ≤ (M 1).toInt → (lf M (-1) h g (i + k)).toInt ≤ 0
  | 0, _ => hi
  | k + 1, hk => by
    have ih := lf_np B h g hi k (by omega)
    have n := (B.1 (i + k) (by omega)).1
    rw [show i + (k + 1) = (i + k) + 1 from rfl, lf_s, nd_m1]
    by_cases c : atB M (i + k) h = true
    · have z : ¬ M (42 + 5 * (i + k)) < lf M (-1) h g (i + k) := fun w => by
        have w := i_lt w
        omega
      rw [if_pos c, if_neg z]
      have := i_sub (lf M (-1) h g (i + k)) (lf M (-1) h g (i + k))
      omega
    · rw [if_neg c]
      exact ih
theorem calm_b {M : Nat → Int32} {s : Sg} (P : PlnR 24 s M) (B : PlB M) {a : Int32} {h : Nat} (ha : a.toInt = (h : Int)) (hh : h < 8) (g : Int32) (m : Nat) : ∀ (i : Nat) (v3 v4 v5 : Int32), v5.toInt = (i : Int) → i ≤ 8 → (i : Int) ≤ (M 1).toInt → (0 < v4.toInt → v4 = lf M (-1) h g i) → (v4.toInt ≤ 0 → (lf M (-1) h g i).toInt ≤ 0) → (∀ x, x < 32 → (bt v3 x = true ↔ (x < i ∧ atB M x h = true ∧ 0 < (lf M (-1) h g x).toInt))) → PQ (f_X9_calmAt_25_b34 m a v3 v4 v5 s) (fun r s' => s' = s ∧ ∀ x, x < 32 → (bt r x = true ↔ ((x : Int) < (M 1).toInt ∧ atB M x h = true ∧ 0 < (lf M (-1) h g x).toInt))) := by
  induction m with
  | zero => intro i v3 v4 v5 _ _ _ _ _ _ r s' q; cases q
  | succ m ih =>
    intro i v3 v4 v5 h5 hi hQ hp hn h3
    have e1 : (1 : Int32).toInt = 1 := rfl
    have e0 : (0 : Int32).toInt = 0 := rfl
    have a5 : (v5 + 1).toInt = v5.toInt + 1 := i_addx v5 1 (by omega)
    have eQ : s.1 25 14 = M 1 := P.1.2.1
    unfold f_X9_calmAt_25_b34
    rw [eQ]
    refine pq_if (fun c => pq_s ⟨rfl, fun x hx => ?_⟩) (fun c => pq_if (fun d => pq_s ⟨rfl, fun x hx => ?_⟩) (fun d => ?_))
    · have c := i_le c
      rw [h3 x hx]
      exact ⟨fun w => ⟨by omega, w.2⟩, fun w => ⟨by omega, w.2⟩⟩
    · have c := i_nle c
      have d := i_le d
      rw [h3 x hx]
      refine ⟨fun w => ⟨by omega, w.2⟩, fun w => ⟨?_, w.2⟩⟩
      by_cases z : x < i
      · exact z
      · have y := lf_np B h g (hn (by omega)) (x - i) (by omega)
        rw [show i + (x - i) = x by omega] at y
        have := w.2.2
        omega
    · have c := i_nle c
      have d := i_nle d
      have hi' : (i : Int) < (M 1).toInt := by omega
      have pq := pln_q P hi'
      have lv := hp (by omega)
      have N := B.1 i hi'
      refine pq_b (isAt_c P h5 (by omega) ha hh) (fun r3 s4 k => ?_)
      obtain ⟨es, k⟩ := k
      subst es
      refine pq_if (fun f => ?_) (fun f => pq_n (fun x5 f5 => pq_c (fun _ => pq_n (fun x7 f7 => ?_))))
      · have na : ¬ atB M i h = true := fun z => r1_n k f ⟨hi', z⟩
        refine ih (i + 1) v3 v4 (v5 + 1) (by omega) (by omega) (by omega) (fun z => ?_) (fun z => ?_) (fun x hx => ?_)
        · rw [lf_s, if_neg na]; exact lv
        · omega
        · rw [h3 x hx]
          constructor
          · intro w; exact ⟨by omega, w.2⟩
          · intro w
            by_cases z : x = i
            · subst z
              exact absurd w.2.1 na
            · exact ⟨by omega, w.2⟩
      · have at1 := (r1_y k f).2
        have e7 : x7 = v4 - M (42 + 5 * i) := by rw [f7, cl_h h5, pq.2.1.2.2]
        have s7 : x7.toInt = v4.toInt - (M (42 + 5 * i)).toInt := by
          rw [e7]
          have v4b := Int32.toInt_lt v4
          exact i_subx _ _ (by omega)
        have L : lf M (-1) h g (i + 1) = v4 - (if M (42 + 5 * i) < v4 then M (42 + 5 * i) else v4) := by
          rw [lf_s, if_pos at1, nd_m1, ← lv]
        have vv := i_sub v4 v4
        refine ih (i + 1) x5 x7 (v5 + 1) (by omega) (by omega) (by omega) (fun z => ?_) (fun z => ?_) (fun x hx => ?_)
        · rw [L, if_pos (Int32.lt_iff_toInt_lt.mpr (by omega))]
          exact e7
        · rw [L]
          by_cases y : M (42 + 5 * i) < v4
          · rw [if_pos y, ← e7]; exact z
          · rw [if_neg y]; omega
        · rw [f5, or_bit h5 (by omega), h3 x hx]
          constructor
          · rintro (w | w)
            · exact ⟨by omega, w.2⟩
            · subst w
              exact ⟨by omega, at1, by rw [← lv]; omega⟩
          · intro w
            by_cases z : x = i
            · exact Or.inr z
            · exact Or.inl ⟨by omega, w.2⟩
theorem calm_c {M : Nat → Int32} {s : Sg} (P : PlnR 24 s M) (B : PlB M) {a : Int32} {h : Nat} (ha : a.toInt = (h : Int)) (hh : h < 8) (g : Int32) : PQ (f_X9_calmAt_25 a g s) (fun r s' => s' = s ∧ ∀ x, x < 32 → (bt r x = true ↔ ((x : Int) < (M 1).toInt ∧ atB M x h = true ∧ smB M x h g = true))) := by
  unfold f_X9_calmAt_25
  refine pq_b (gone_c P ha (by omega)) (fun r1 s2 k => ?_)
  obtain ⟨es, k⟩ := k
  subst es
  have e19 : s2.1 25 19 = M 14 := P.2.2.1.2.2
  have b1 := P.2.1.2.1
  refine pq_if (fun c => pq_w (calm_b P B ha hh g BIG 0 0 g 0 rfl (by decide) b1.1 (fun _ => rfl) (fun z => z) (fun x _ => ?_)) (fun r s' w => ⟨w.1, fun x hx => ?_⟩)) (fun c => ?_)
  · rw [bt_0]
    exact ⟨fun z => absurd z (by decide), fun z => absurd z.1 (Nat.not_lt_zero _)⟩
  · rw [w.2 x hx]
    unfold smB
    rw [if_neg (r1_n k c)]
    exact ⟨fun z => ⟨z.1, z.2.1, decide_eq_true z.2.2⟩, fun z => ⟨z.1, z.2.1, of_decide_eq_true z.2.2⟩⟩
  · have gn := r1_y k c
    have fe : ∀ x, smB M x h g = decide (M 14 = 1) := fun x => by
      unfold smB
      rw [if_pos gn]
    refine pq_if (fun d => pq_s ⟨rfl, fun x hx => ?_⟩) (fun d => pq_c (fun _ => pq_s ⟨rfl, fun x hx => ?_⟩))
    · rw [bt_0, fe]
      refine ⟨fun z => absurd z (by decide), fun z => ?_⟩
      have z := of_decide_eq_true z.2.2
      rw [← e19, d] at z
      exact absurd z (by decide)
    · rw [cl_h ha, qa_b P hh, fe]
      have m14 : M 14 = 1 := by
        rcases B.2.2.2.2.2 with z | z
        · exact absurd (e19.trans z) d
        · exact z
      exact ⟨fun z => ⟨z.1, z.2, decide_eq_true m14⟩, fun z => ⟨z.1, z.2.1⟩⟩
theorem tru_b {M : Nat → Int32} {s : Sg} (P : PlnR 24 s M) (B : PlB M) (G : GrdT 0 s M) (m : Nat) : ∀ (i : Nat) (v3 v4 : Int32), v4.toInt = (i : Int) → i ≤ 8 → (i : Int) ≤ (M 0).toInt → (∀ x, x < 32 → (bt v3 x = true ↔ ((x : Int) < (M 1).toInt ∧ ∀ h, h < i → atB M x h = true → smB M x h (sgM M h) = true))) → PQ (f_X9_inTruce_26_25_b7 m v3 v4 s) (fun r s' => s' = s ∧ ∀ x, x < 32 → (bt r x = true ↔ ((x : Int) < (M 1).toInt ∧ ∀ h : Nat, (h : Int) < (M 0).toInt → atB M x h = true → smB M x h (sgM M h) = true))) := by
  induction m with
  | zero => intro i v3 v4 _ _ _ _ r s' q; cases q
  | succ m ih =>
    intro i v3 v4 h4 hi hH h3
    have e1 : (1 : Int32).toInt = 1 := rfl
    have a4 : (v4 + 1).toInt = v4.toInt + 1 := i_addx v4 1 (by omega)
    have e13 : (s.1 25 13).toInt = (M 0).toInt + 0 := P.1.1
    have b0 := P.2.1.1
    unfold f_X9_inTruce_26_25_b7
    refine pq_if (fun c => pq_s ⟨rfl, fun x hx => ?_⟩) (fun c => pq_c (fun _ => ?_))
    · have c := i_le c
      rw [h3 x hx]
      exact ⟨fun w => ⟨w.1, fun h hh => w.2 h (by omega)⟩, fun w => ⟨w.1, fun h hh => w.2 h (by omega)⟩⟩
    · have c := i_nle c
      have hh : i < 8 := by omega
      refine pq_b (sight_c G h4 hh) (fun r4 s5 k => ?_)
      obtain ⟨es, k⟩ := k
      subst es
      refine pq_b (calm_c P B h4 hh r4) (fun r6 s7 l => pq_n (fun x8 e8 => ?_))
      obtain ⟨es, l⟩ := l
      subst es
      refine ih (i + 1) x8 (v4 + 1) (by omega) (by omega) (by omega) (fun x hx => ?_)
      have q34 := qa_b P hh x
      rw [e8, bt_and, bt_or, bt_xor, bt_m1 x hx, cl_h h4]
      have lx := l x hx
      have hx3 := h3 x hx
      rw [k] at lx
      constructor
      · intro w
        obtain ⟨w1, w2⟩ := Bool.and_eq_true_iff.mp w
        refine ⟨(hx3.mp w1).1, fun h hhi hat => ?_⟩
        by_cases z : h = i
        · subst z
          rcases Bool.or_eq_true_iff.mp w2 with y | y
          · rw [q34.mpr ⟨(hx3.mp w1).1, hat⟩] at y
            exact absurd y (by decide)
          · exact (lx.mp y).2.2
        · exact (hx3.mp w1).2 h (by omega) hat
      · intro w
        refine Bool.and_eq_true_iff.mpr ⟨hx3.mpr ⟨w.1, fun h hhi hat => w.2 h (by omega) hat⟩, Bool.or_eq_true_iff.mpr ?_⟩
        by_cases z : atB M x i = true
        · exact Or.inr (lx.mpr ⟨w.1, z, w.2 i (by omega) z⟩)
        · refine Or.inl ?_
          have y : bt (s7.1 34 i) x = false := by
            cases hb : bt (s7.1 34 i) x with
            | false => rfl
            | true => exact absurd (q34.mp hb).2 z
          rw [y]
          rfl
theorem tru_c {M : Nat → Int32} {s : Sg} (P : PlnR 24 s M) (B : PlB M) (G : GrdT 0 s M) : PQ (f_X9_inTruce_26_25 s) (fun r s' => s' = s ∧ ∀ x, x < 32 → (bt r x = true ↔ ((x : Int) < (M 1).toInt ∧ tcB M x = true))) := by
  unfold f_X9_inTruce_26_25
  refine pq_b (allq_c P) (fun r1 s2 k => ?_)
  obtain ⟨es, k⟩ := k
  subst es
  refine pq_w (tru_b P B G BIG 0 r1 0 rfl (by decide) P.2.1.1.1 (fun x hx => ?_)) (fun r s' w => ⟨w.1, fun x hx => ?_⟩)
  · rw [k x hx]
    exact ⟨fun w => ⟨w, fun h hh => absurd hh (Nat.not_lt_zero _)⟩, fun w => w.1⟩
  · rw [w.2 x hx]
    constructor
    · intro y
      have en := ends_h P y.1
      exact ⟨y.1, Bool.and_eq_true_iff.mpr ⟨y.2 _ en.2.2.1.1 (decide_eq_true (Or.inl en.1.1)), y.2 _ en.2.2.1.2 (decide_eq_true (Or.inr en.1.2))⟩⟩
    · intro y
      obtain ⟨y1, y2⟩ := y
      obtain ⟨y2, y3⟩ := Bool.and_eq_true_iff.mp y2
      refine ⟨y1, fun h hh hat => ?_⟩
      rcases (at_h P y1).mp hat with z | z
      · rw [z]; exact y2
      · rw [z]; exact y3
theorem holds_r {s t : Sg} (H : NowG 0 s t) {k : Nat} (hk : k < 60) (a b : Int32) (ha : a.toInt = (k : Int)) (hb : b.toInt = 110 + 6 * (k : Int)) (R : RwR 24 110 s (t.1 1) k) (V : VdR 110 (t.1 1) k) (w : s.1 45 k = 124) : RQ (f_X3_holds_26_27_25 a s) (f_X12_holds b t) (fun r s' r' t' => s' = s ∧ t' = t ∧ r = r') := by
  have hp : ∀ (j : Nat) (bj : Int32), bj.toInt = (j : Int) → j < 6 → (b + bj).toNatClampNeg = 110 + 6 * k + j := fun j bj z1 z2 => by
    have y : (b + bj).toInt = b.toInt + bj.toInt := i_addx _ _ (by omega)
    exact cl_h (by omega)
  have hb0 : b.toNatClampNeg = 110 + 6 * k := cl_h (by omega)
  have b0 := H.1.1.2.1.1
  have b1 := H.1.1.2.1.2.1
  have h24 := H.2.1.2
  unfold f_X3_holds_26_27_25 f_X12_holds
  refine rq_cC (fun _ => rq_cM (fun _ => rq_nM (fun x2 f2 => rq_cM (fun _ => rq_nM (fun x4 f4 => ?_)))))
  rw [hb0] at f2
  rw [hp 1 1 rfl (by decide)] at f4
  rw [cl_h ha]
  obtain ⟨V1, V2, V3, V4, V5, V6, V7⟩ := V
  have no : ∀ {z : Int32}, s.1 45 k = z → ¬ (124 : Int32) = z → False := fun y z => z (w.symm.trans y)
  rcases R with ⟨y, -⟩ | ⟨y, -⟩ | ⟨y, -⟩ | ⟨y, -⟩ | ⟨y, -⟩ | ⟨y, -⟩ | ⟨y, -⟩ | ⟨y, -⟩ | ⟨y, -⟩ | ⟨-, th, R⟩
  · exact (no y (by decide)).elim
  · exact (no y (by decide)).elim
  · exact (no y (by decide)).elim
  · exact (no y (by decide)).elim
  · exact (no y (by decide)).elim
  · exact (no y (by decide)).elim
  · exact (no y (by decide)).elim
  · exact (no y (by decide)).elim
  · exact (no y (by decide)).elim
  have t46 : s.1 46 k = x4 := th.trans f4.symm
  rcases R with ⟨te, m⟩ | ⟨te, m⟩ | ⟨te, tk, nu, m⟩
  · have g2 : x2 = 28 := by rw [f2, show t.1 1 (110 + 6 * k) = 2428 from m]; rfl
    have hv := V3 (Or.inl m)
    rw [show t.1 1 (110 + 6 * k + 1) = x4 from f4.symm] at hv
    have hx : x4.toInt = (x4.toInt.toNat : Int) := by omega
    have q8 : x4.toInt.toNat < 8 := by omega
    rw [show s.1 49 k = 125 from te, if_neg (show ¬ (125 : Int32) = 60 by decide), if_neg (show ¬ (125 : Int32) = 62 by decide), if_pos (show (125 : Int32) = 125 from rfl), g2, if_pos (show (28 : Int32) = 28 from rfl), t46]
    refine rq_bC (hsf_p hx (by omega) s) (fun r s2 g => rq_cC (fun _ => rq_bM (qrow_p x4 t) (fun r5 t6 l => rq_cM (fun _ => ?_))))
    obtain ⟨es, g⟩ := g
    obtain ⟨et, l⟩ := l
    subst es
    subst et
    rw [l, (qr_x hx q8).2.2.2.1]
    have ov := H.1.2.2.2.2 x4.toInt.toNat (by omega)
    refine rq_iM (fun c => rq_s ⟨rfl, rfl, ?_⟩) (fun c => rq_s ⟨rfl, rfl, ?_⟩)
    · exact g.elim (fun y => y.1) (fun y => absurd (ov.trans (decide_eq_true ⟨q8, c⟩)) y.2)
    · exact g.elim (fun y => absurd (of_decide_eq_true (ov.symm.trans y.2)).2 c) (fun y => y.1)
  · have g2 : x2 = 29 := by rw [f2, show t.1 1 (110 + 6 * k) = 2429 from m]; rfl
    have hv := V3 (Or.inr m)
    rw [show t.1 1 (110 + 6 * k + 1) = x4 from f4.symm] at hv
    have hx : x4.toInt = (x4.toInt.toNat : Int) := by omega
    have hq : (x4.toInt.toNat : Int) < (t.1 1 1).toInt := by omega
    have q8 : x4.toInt.toNat < 8 := by omega
    have E := (pln_q H.1.1 hq).2.2.1
    have N := (H.2.2.1.1 x4.toInt.toNat hq).1
    rw [show s.1 49 k = 126 from te, if_neg (show ¬ (126 : Int32) = 60 by decide), if_neg (show ¬ (126 : Int32) = 62 by decide), if_neg (show ¬ (126 : Int32) = 125 by decide), if_pos (show (126 : Int32) = 126 from rfl), g2, if_neg (show ¬ (29 : Int32) = 28 by decide), if_pos (show (29 : Int32) = 29 from rfl), t46]
    refine rq_bC (tru_c H.1.1 H.2.2.1 H.1.2.1) (fun r8 s9 g => ?_)
    obtain ⟨es, g⟩ := g
    subst es
    refine rq_bC (hsf_p hx (by omega) s9) (fun r10 s11 f => rq_cC (fun _ => ?_))
    obtain ⟨es, f⟩ := f
    subst es
    have gq := g x4.toInt.toNat (by omega)
    refine rq_bM (some_m hx q8 (Or.inl ⟨rfl, rfl⟩) t h24 N E.1) (fun u1 t9 u => ?_)
    obtain ⟨et, u⟩ := u
    subst et
    refine rq_iM (fun c => rq_s ⟨rfl, rfl, ?_⟩) (fun c => rq_bM (some_m hx q8 (Or.inr ⟨rfl, rfl⟩) t9 h24 N E.2) (fun u2 t11 y => ?_))
    · exact f.elim (fun y => absurd (Bool.and_eq_true_iff.mp (gq.mp y.2).2).1 (r1_n u c)) (fun y => y.1)
    · obtain ⟨et, y⟩ := y
      subst et
      refine rq_iM (fun d => rq_s ⟨rfl, rfl, ?_⟩) (fun d => rq_s ⟨rfl, rfl, ?_⟩)
      · exact f.elim (fun z => absurd (Bool.and_eq_true_iff.mp (gq.mp z.2).2).2 (r1_n y d)) (fun z => z.1)
      · exact f.elim (fun z => z.1) (fun z => absurd (gq.mpr ⟨hq, Bool.and_eq_true_iff.mpr ⟨r1_y u c, r1_y y d⟩⟩) z.2)
  · have g2 : x2 = 30 := by rw [f2, show t.1 1 (110 + 6 * k) = 2430 from m]; rfl
    have hv := (V1 (Or.inr (Or.inr (Or.inr m)))).1
    rw [show t.1 1 (110 + 6 * k + 1) = x4 from f4.symm] at hv
    have hx : x4.toInt = (x4.toInt.toNat : Int) := by omega
    have h8 : x4.toInt.toNat < 8 := by omega
    have n47 : s.1 47 k = t.1 1 (110 + 6 * k + 2) := nu
    have n49 : t.1 1 (110 + 6 * k + 5) = s.1 49 k := te.symm
    rw [g2, if_neg (show ¬ (30 : Int32) = 28 by decide), if_neg (show ¬ (30 : Int32) = 29 by decide), t46]
    refine rq_bM (grains_m hx h8 t) (fun r12 t13 l => rq_cM (fun _ => ?_))
    obtain ⟨et, l⟩ := l
    subst et
    rw [hp 5 5 rfl (by decide), n49]
    rcases tk with z | z | z
    · rw [show s.1 49 k = 60 from z, if_pos (show (60 : Int32) = 60 from rfl), if_pos (show (60 : Int32) = 60 from rfl)]
      refine rq_cM (fun _ => rq_bC (ly_c H.1.2.1 hx h8) (fun r2 s3 g => ?_))
      obtain ⟨es, g⟩ := g
      subst es
      rw [hp 2 2 rfl (by decide), n47, g, l]
      exact rq_iC (fun c => rq_iM (fun _ => rq_s ⟨rfl, rfl, rfl⟩) (fun d => absurd c d)) (fun c => rq_iM (fun d => absurd d c) (fun _ => rq_s ⟨rfl, rfl, rfl⟩))
    · rw [show s.1 49 k = 62 from z, if_neg (show ¬ (62 : Int32) = 60 by decide), if_neg (show ¬ (62 : Int32) = 60 by decide), if_pos (show (62 : Int32) = 62 from rfl), if_pos (show (62 : Int32) = 62 from rfl)]
      refine rq_cM (fun _ => rq_bC (ly_c H.1.2.1 hx h8) (fun r2 s3 g => ?_))
      obtain ⟨es, g⟩ := g
      subst es
      rw [hp 2 2 rfl (by decide), n47, g, l]
      exact rq_iC (fun c => rq_iM (fun _ => rq_s ⟨rfl, rfl, rfl⟩) (fun d => absurd c d)) (fun c => rq_iM (fun d => absurd d c) (fun _ => rq_s ⟨rfl, rfl, rfl⟩))
    · rw [show s.1 49 k = 61 from z, if_neg (show ¬ (61 : Int32) = 60 by decide), if_neg (show ¬ (61 : Int32) = 60 by decide), if_neg (show ¬ (61 : Int32) = 62 by decide), if_neg (show ¬ (61 : Int32) = 62 by decide), if_neg (show ¬ (61 : Int32) = 125 by decide), if_neg (show ¬ (61 : Int32) = 126 by decide)]
      refine rq_cM (fun _ => rq_bC (ly_c H.1.2.1 hx h8) (fun r2 s3 g => ?_))
      obtain ⟨es, g⟩ := g
      subst es
      rw [hp 2 2 rfl (by decide), n47, g, l]
      exact rq_iC (fun c => rq_iM (fun _ => rq_s ⟨rfl, rfl, rfl⟩) (fun d => absurd c d)) (fun c => rq_iM (fun d => absurd d c) (fun _ => rq_s ⟨rfl, rfl, rfl⟩))
theorem tru_bz {M : Nat → Int32} {s : Sg} (P : PlnR 24 s M) (B : PlB M) (G : GrdT 27 s M) (m : Nat) : ∀ (i : Nat) (v3 v4 : Int32), v4.toInt = (i : Int) → i ≤ 8 → (i : Int) ≤ (M 0).toInt → (∀ x, x < 32 → (bt v3 x = true ↔ ((x : Int) < (M 1).toInt ∧ ∀ h, h < i → atB M x h = true → smB M x h (sgM M h) = true))) → PQ (f_X9_inTruce_53_25_b7 m v3 v4 s) (fun r s' => s' = s ∧ ∀ x, x < 32 → (bt r x = true ↔ ((x : Int) < (M 1).toInt ∧ ∀ h : Nat, (h : Int) < (M 0).toInt → atB M x h = true → smB M x h (sgM M h) = true))) := by
  induction m with
  | zero => intro i v3 v4 _ _ _ _ r s' q; cases q
  | succ m ih =>
    intro i v3 v4 h4 hi hH h3
    have e1 : (1 : Int32).toInt = 1 := rfl
    have a4 : (v4 + 1).toInt = v4.toInt + 1 := i_addx v4 1 (by omega)
    have e13 : (s.1 25 13).toInt = (M 0).toInt + 0 := P.1.1
    have b0 := P.2.1.1
    unfold f_X9_inTruce_53_25_b7
    refine pq_if (fun c => pq_s ⟨rfl, fun x hx => ?_⟩) (fun c => pq_c (fun _ => ?_))
    · have c := i_le c
      rw [h3 x hx]
      exact ⟨fun w => ⟨w.1, fun h hh => w.2 h (by omega)⟩, fun w => ⟨w.1, fun h hh => w.2 h (by omega)⟩⟩
    · have c := i_nle c
      have hh : i < 8 := by omega
      refine pq_b (sight_cz G h4 hh) (fun r4 s5 k => ?_)
      obtain ⟨es, k⟩ := k
      subst es
      refine pq_b (calm_c P B h4 hh r4) (fun r6 s7 l => pq_n (fun x8 e8 => ?_))
      obtain ⟨es, l⟩ := l
      subst es
      refine ih (i + 1) x8 (v4 + 1) (by omega) (by omega) (by omega) (fun x hx => ?_)
      have q34 := qa_b P hh x
      rw [e8, bt_and, bt_or, bt_xor, bt_m1 x hx, cl_h h4]
      have lx := l x hx
      have hx3 := h3 x hx
      rw [k] at lx
      constructor
      · intro w
        obtain ⟨w1, w2⟩ := Bool.and_eq_true_iff.mp w
        refine ⟨(hx3.mp w1).1, fun h hhi hat => ?_⟩
        by_cases z : h = i
        · subst z
          rcases Bool.or_eq_true_iff.mp w2 with y | y
          · rw [q34.mpr ⟨(hx3.mp w1).1, hat⟩] at y
            exact absurd y (by decide)
          · exact (lx.mp y).2.2
        · exact (hx3.mp w1).2 h (by omega) hat
      · intro w
        refine Bool.and_eq_true_iff.mpr ⟨hx3.mpr ⟨w.1, fun h hhi hat => w.2 h (by omega) hat⟩, Bool.or_eq_true_iff.mpr ?_⟩
        by_cases z : atB M x i = true
        · exact Or.inr (lx.mpr ⟨w.1, z, w.2 i (by omega) z⟩)
        · refine Or.inl ?_
          have y : bt (s7.1 34 i) x = false := by
            cases hb : bt (s7.1 34 i) x with
            | false => rfl
            | true => exact absurd (q34.mp hb).2 z
          rw [y]
          rfl
theorem tru_cz {M : Nat → Int32} {s : Sg} (P : PlnR 24 s M) (B : PlB M) (G : GrdT 27 s M) : PQ (f_X9_inTruce_53_25 s) (fun r s' => s' = s ∧ ∀ x, x < 32 → (bt r x = true ↔ ((x : Int) < (M 1).toInt ∧ tcB M x = true))) := by
  unfold f_X9_inTruce_53_25
  refine pq_b (allq_c P) (fun r1 s2 k => ?_)
  obtain ⟨es, k⟩ := k
  subst es
  refine pq_w (tru_bz P B G BIG 0 r1 0 rfl (by decide) P.2.1.1.1 (fun x hx => ?_)) (fun r s' w => ⟨w.1, fun x hx => ?_⟩)
  · rw [k x hx]
    exact ⟨fun w => ⟨w, fun h hh => absurd hh (Nat.not_lt_zero _)⟩, fun w => w.1⟩
  · rw [w.2 x hx]
    constructor
    · intro y
      have en := ends_h P y.1
      exact ⟨y.1, Bool.and_eq_true_iff.mpr ⟨y.2 _ en.2.2.1.1 (decide_eq_true (Or.inl en.1.1)), y.2 _ en.2.2.1.2 (decide_eq_true (Or.inr en.1.2))⟩⟩
    · intro y
      obtain ⟨y1, y2⟩ := y
      obtain ⟨y2, y3⟩ := Bool.and_eq_true_iff.mp y2
      refine ⟨y1, fun h hh hat => ?_⟩
      rcases (at_h P y1).mp hat with z | z
      · rw [z]; exact y2
      · rw [z]; exact y3
theorem holds_rz {s t : Sg} (H : NowG 27 s t) {k : Nat} (hk : k < 60) (a b : Int32) (ha : a.toInt = (k : Int)) (hb : b.toInt = 110 + 6 * (k : Int)) (R : RwR 24 110 s (t.1 1) k) (V : VdR 110 (t.1 1) k) (w : s.1 45 k = 124) : RQ (f_X3_holds_53_27_25 a s) (f_X12_holds b t) (fun r s' r' t' => s' = s ∧ t' = t ∧ r = r') := by
  have hp : ∀ (j : Nat) (bj : Int32), bj.toInt = (j : Int) → j < 6 → (b + bj).toNatClampNeg = 110 + 6 * k + j := fun j bj z1 z2 => by
    have y : (b + bj).toInt = b.toInt + bj.toInt := i_addx _ _ (by omega)
    exact cl_h (by omega)
  have hb0 : b.toNatClampNeg = 110 + 6 * k := cl_h (by omega)
  have b0 := H.1.1.2.1.1
  have b1 := H.1.1.2.1.2.1
  have h24 := H.2.1.2
  unfold f_X3_holds_53_27_25 f_X12_holds
  refine rq_cC (fun _ => rq_cM (fun _ => rq_nM (fun x2 f2 => rq_cM (fun _ => rq_nM (fun x4 f4 => ?_)))))
  rw [hb0] at f2
  rw [hp 1 1 rfl (by decide)] at f4
  rw [cl_h ha]
  obtain ⟨V1, V2, V3, V4, V5, V6, V7⟩ := V
  have no : ∀ {z : Int32}, s.1 45 k = z → ¬ (124 : Int32) = z → False := fun y z => z (w.symm.trans y)
  rcases R with ⟨y, -⟩ | ⟨y, -⟩ | ⟨y, -⟩ | ⟨y, -⟩ | ⟨y, -⟩ | ⟨y, -⟩ | ⟨y, -⟩ | ⟨y, -⟩ | ⟨y, -⟩ | ⟨-, th, R⟩
  · exact (no y (by decide)).elim
  · exact (no y (by decide)).elim
  · exact (no y (by decide)).elim
  · exact (no y (by decide)).elim
  · exact (no y (by decide)).elim
  · exact (no y (by decide)).elim
  · exact (no y (by decide)).elim
  · exact (no y (by decide)).elim
  · exact (no y (by decide)).elim
  have t46 : s.1 46 k = x4 := th.trans f4.symm
  rcases R with ⟨te, m⟩ | ⟨te, m⟩ | ⟨te, tk, nu, m⟩
  · have g2 : x2 = 28 := by rw [f2, show t.1 1 (110 + 6 * k) = 2428 from m]; rfl
    have hv := V3 (Or.inl m)
    rw [show t.1 1 (110 + 6 * k + 1) = x4 from f4.symm] at hv
    have hx : x4.toInt = (x4.toInt.toNat : Int) := by omega
    have q8 : x4.toInt.toNat < 8 := by omega
    rw [show s.1 49 k = 125 from te, if_neg (show ¬ (125 : Int32) = 60 by decide), if_neg (show ¬ (125 : Int32) = 62 by decide), if_pos (show (125 : Int32) = 125 from rfl), g2, if_pos (show (28 : Int32) = 28 from rfl), t46]
    refine rq_bC (hsf_p hx (by omega) s) (fun r s2 g => rq_cC (fun _ => rq_bM (qrow_p x4 t) (fun r5 t6 l => rq_cM (fun _ => ?_))))
    obtain ⟨es, g⟩ := g
    obtain ⟨et, l⟩ := l
    subst es
    subst et
    rw [l, (qr_x hx q8).2.2.2.1]
    have ov := H.1.2.2.2.2 x4.toInt.toNat (by omega)
    refine rq_iM (fun c => rq_s ⟨rfl, rfl, ?_⟩) (fun c => rq_s ⟨rfl, rfl, ?_⟩)
    · exact g.elim (fun y => y.1) (fun y => absurd (ov.trans (decide_eq_true ⟨q8, c⟩)) y.2)
    · exact g.elim (fun y => absurd (of_decide_eq_true (ov.symm.trans y.2)).2 c) (fun y => y.1)
  · have g2 : x2 = 29 := by rw [f2, show t.1 1 (110 + 6 * k) = 2429 from m]; rfl
    have hv := V3 (Or.inr m)
    rw [show t.1 1 (110 + 6 * k + 1) = x4 from f4.symm] at hv
    have hx : x4.toInt = (x4.toInt.toNat : Int) := by omega
    have hq : (x4.toInt.toNat : Int) < (t.1 1 1).toInt := by omega
    have q8 : x4.toInt.toNat < 8 := by omega
    have E := (pln_q H.1.1 hq).2.2.1
    have N := (H.2.2.1.1 x4.toInt.toNat hq).1
    rw [show s.1 49 k = 126 from te, if_neg (show ¬ (126 : Int32) = 60 by decide), if_neg (show ¬ (126 : Int32) = 62 by decide), if_neg (show ¬ (126 : Int32) = 125 by decide), if_pos (show (126 : Int32) = 126 from rfl), g2, if_neg (show ¬ (29 : Int32) = 28 by decide), if_pos (show (29 : Int32) = 29 from rfl), t46]
    refine rq_bC (tru_cz H.1.1 H.2.2.1 H.1.2.1) (fun r8 s9 g => ?_)
    obtain ⟨es, g⟩ := g
    subst es
    refine rq_bC (hsf_p hx (by omega) s9) (fun r10 s11 f => rq_cC (fun _ => ?_))
    obtain ⟨es, f⟩ := f
    subst es
    have gq := g x4.toInt.toNat (by omega)
    refine rq_bM (some_m hx q8 (Or.inl ⟨rfl, rfl⟩) t h24 N E.1) (fun u1 t9 u => ?_)
    obtain ⟨et, u⟩ := u
    subst et
    refine rq_iM (fun c => rq_s ⟨rfl, rfl, ?_⟩) (fun c => rq_bM (some_m hx q8 (Or.inr ⟨rfl, rfl⟩) t9 h24 N E.2) (fun u2 t11 y => ?_))
    · exact f.elim (fun y => absurd (Bool.and_eq_true_iff.mp (gq.mp y.2).2).1 (r1_n u c)) (fun y => y.1)
    · obtain ⟨et, y⟩ := y
      subst et
      refine rq_iM (fun d => rq_s ⟨rfl, rfl, ?_⟩) (fun d => rq_s ⟨rfl, rfl, ?_⟩)
      · exact f.elim (fun z => absurd (Bool.and_eq_true_iff.mp (gq.mp z.2).2).2 (r1_n y d)) (fun z => z.1)
      · exact f.elim (fun z => z.1) (fun z => absurd (gq.mpr ⟨hq, Bool.and_eq_true_iff.mpr ⟨r1_y u c, r1_y y d⟩⟩) z.2)
  · have g2 : x2 = 30 := by rw [f2, show t.1 1 (110 + 6 * k) = 2430 from m]; rfl
    have hv := (V1 (Or.inr (Or.inr (Or.inr m)))).1
    rw [show t.1 1 (110 + 6 * k + 1) = x4 from f4.symm] at hv
    have hx : x4.toInt = (x4.toInt.toNat : Int) := by omega
    have h8 : x4.toInt.toNat < 8 := by omega
    have n47 : s.1 47 k = t.1 1 (110 + 6 * k + 2) := nu
    have n49 : t.1 1 (110 + 6 * k + 5) = s.1 49 k := te.symm
    rw [g2, if_neg (show ¬ (30 : Int32) = 28 by decide), if_neg (show ¬ (30 : Int32) = 29 by decide), t46]
    refine rq_bM (grains_m hx h8 t) (fun r12 t13 l => rq_cM (fun _ => ?_))
    obtain ⟨et, l⟩ := l
    subst et
    rw [hp 5 5 rfl (by decide), n49]
    rcases tk with z | z | z
    · rw [show s.1 49 k = 60 from z, if_pos (show (60 : Int32) = 60 from rfl), if_pos (show (60 : Int32) = 60 from rfl)]
      refine rq_cM (fun _ => rq_bC (ly_cz H.1.2.1 hx h8) (fun r2 s3 g => ?_))
      obtain ⟨es, g⟩ := g
      subst es
      rw [hp 2 2 rfl (by decide), n47, g, l]
      exact rq_iC (fun c => rq_iM (fun _ => rq_s ⟨rfl, rfl, rfl⟩) (fun d => absurd c d)) (fun c => rq_iM (fun d => absurd d c) (fun _ => rq_s ⟨rfl, rfl, rfl⟩))
    · rw [show s.1 49 k = 62 from z, if_neg (show ¬ (62 : Int32) = 60 by decide), if_neg (show ¬ (62 : Int32) = 60 by decide), if_pos (show (62 : Int32) = 62 from rfl), if_pos (show (62 : Int32) = 62 from rfl)]
      refine rq_cM (fun _ => rq_bC (ly_cz H.1.2.1 hx h8) (fun r2 s3 g => ?_))
      obtain ⟨es, g⟩ := g
      subst es
      rw [hp 2 2 rfl (by decide), n47, g, l]
      exact rq_iC (fun c => rq_iM (fun _ => rq_s ⟨rfl, rfl, rfl⟩) (fun d => absurd c d)) (fun c => rq_iM (fun d => absurd d c) (fun _ => rq_s ⟨rfl, rfl, rfl⟩))
    · rw [show s.1 49 k = 61 from z, if_neg (show ¬ (61 : Int32) = 60 by decide), if_neg (show ¬ (61 : Int32) = 60 by decide), if_neg (show ¬ (61 : Int32) = 62 by decide), if_neg (show ¬ (61 : Int32) = 62 by decide), if_neg (show ¬ (61 : Int32) = 125 by decide), if_neg (show ¬ (61 : Int32) = 126 by decide)]
      refine rq_cM (fun _ => rq_bC (ly_cz H.1.2.1 hx h8) (fun r2 s3 g => ?_))
      obtain ⟨es, g⟩ := g
      subst es
      rw [hp 2 2 rfl (by decide), n47, g, l]
      exact rq_iC (fun c => rq_iM (fun _ => rq_s ⟨rfl, rfl, rfl⟩) (fun d => absurd c d)) (fun c => rq_iM (fun d => absurd d c) (fun _ => rq_s ⟨rfl, rfl, rfl⟩))
/-! life: the program that is run, where it goes on, the turns -/
def PgX (X : Nat) (s : Sg) (M : Nat → Int32) : Prop := (s.1 27 6 = 1 ∧ s.1 27 7 = M 11 ∧ (M 11).toInt = (X : Int) ∧ X ≤ 60) ∧ (∀ k : Nat, k < X → (RwR 24 110 s M k ∧ VdR 110 M k) ∧ ((s.1 45 k = 124 ∨ s.1 45 k = 128 ∨ s.1 45 k = 129) → s.1 50 k = M (110 + 6 * k + 4))) ∧ ∃ st : Nat → Int32, NsA (fun k => M (110 + 6 * k)) (fun k => M (110 + 6 * k + 4)) st 0 X
theorem pgx_k {X : Nat} {s s' : Sg} {M M' : Nat → Int32} (h : PgX X s M) (hs : ∀ c, c = 27 ∨ (45 ≤ c ∧ c ≤ 50) → s'.1 c = s.1 c) (hM : ∀ p, (110 ≤ p ∨ PlP p ∨ p = 11) → M' p = M p) : PgX X s' M' := by
  obtain ⟨⟨h1, h2, h3, h4⟩, h5, st, h6⟩ := h
  have m11 := hM 11 (Or.inr (Or.inr rfl))
  have c27 := hs 27 (Or.inl rfl)
  refine ⟨⟨by rw [c27]; exact h1, by rw [c27, m11]; exact h2, by rw [m11]; exact h3, h4⟩, fun k hk => ?_, st, ns_e h6 (fun k _ => ⟨hM _ (Or.inl (by omega)), hM _ (Or.inl (by omega))⟩)⟩
  have w := h5 k hk
  have big : ∀ p, 110 ≤ p → M' p = M p := fun p hp => hM p (Or.inl hp)
  have sm : ∀ p, p < 4 ∨ p = 9 → M' p = M p := fun p hp => hM p (Or.inr (Or.inl (plp_0 (by omega))))
  unfold RwR VdR at w ⊢
  rw [hs (24 + 21) (by omega), hs (24 + 22) (by omega), hs (24 + 23) (by omega), hs (24 + 24) (by omega), hs (24 + 25) (by omega), hs 50 (by omega), big (110 + 6 * k) (by omega), big (110 + 6 * k + 1) (by omega), big (110 + 6 * k + 2) (by omega), big (110 + 6 * k + 3) (by omega), big (110 + 6 * k + 4) (by omega), big (110 + 6 * k + 5) (by omega), sm 0 (by omega), sm 1 (by omega), sm 3 (by omega), sm 9 (by omega)]
  exact w
theorem no_on {st : Nat → Int32} {p : Nat} : ¬ OnA st 0 p := fun z => by
  obtain ⟨d, hd, -⟩ := z
  omega
theorem pg_blk {X : Nat} {s : Sg} {M : Nat → Int32} (h : PgX X s M) {p : Nat} (hp : p < X) (hb : Blk (M (110 + 6 * p))) : ∃ e : Nat, (p < e ∧ e < X) ∧ (M (110 + 6 * p + 4)).toInt = (e : Int) ∧ M (110 + 6 * e) = 26 ∧ (M (110 + 6 * e + 4)).toInt = (p : Int) := by
  obtain ⟨-, -, st, h1, h2, h3, h4, h5⟩ := h
  rcases h2 p hp hb with z | z
  · exact absurd z no_on
  · exact z
theorem pg_end {X : Nat} {s : Sg} {M : Nat → Int32} (h : PgX X s M) {k : Nat} (hk : k < X) (e : M (110 + 6 * k) = 26) : ∃ p : Nat, p < k ∧ (M (110 + 6 * k + 4)).toInt = (p : Int) ∧ Blk (M (110 + 6 * p)) ∧ (M (110 + 6 * p + 4)).toInt = (k : Int) := by
  obtain ⟨-, -, st, h1, h2, h3, h4, h5⟩ := h
  obtain ⟨p, p1, p2, p3, p4, p5⟩ := h4 k hk e
  exact ⟨p, p1, p2, p3, p4⟩
theorem pg_in {X : Nat} {s : Sg} {M : Nat → Int32} (h : PgX X s M) {p q : Nat} (pq : p < q) (hq : q < X) (b1 : Blk (M (110 + 6 * p))) (b2 : Blk (M (110 + 6 * q))) (lt : (q : Int) < (M (110 + 6 * p + 4)).toInt) : (M (110 + 6 * q + 4)).toInt < (M (110 + 6 * p + 4)).toInt := by
  obtain ⟨-, -, st, h1, h2, h3, h4, h5⟩ := h
  exact (h5 p q pq hq b1 b2 no_on lt).2
theorem rw_kd {b B k : Nat} {s : Sg} {M : Nat → Int32} (R : RwR b B s M k) : (s.1 (b + 21) k = 129 ↔ M (B + 6 * k) = 26) ∧ (s.1 (b + 21) k = 128 ↔ M (B + 6 * k) = 25) ∧ (s.1 (b + 21) k = 130 ↔ M (B + 6 * k) = 27) ∧ (s.1 (b + 21) k = 124 ↔ ¬ M (B + 6 * k) < 2400) := by
  unfold RwR RwA at R
  generalize s.1 (b + 21) k = w at R ⊢
  generalize M (B + 6 * k) = m0 at R ⊢
  rcases R with ⟨y, z, -⟩ | ⟨y, z, -⟩ | ⟨y, z, -⟩ | ⟨y, z, -⟩ | ⟨y, z, -⟩ | ⟨y, z⟩ | ⟨y, z, -⟩ | ⟨y, z⟩ | ⟨y, z⟩ | ⟨y, -, ⟨-, z⟩ | ⟨-, z⟩ | ⟨-, -, -, z⟩⟩ <;> subst y <;> subst z <;> decide
theorem blk_of {b B k : Nat} {s : Sg} {M : Nat → Int32} (R : RwR b B s M k) (h : ¬ M (B + 6 * k) < 2400) : Blk (M (B + 6 * k)) := by
  have w := (rw_kd R).2.2.2.mpr h
  unfold RwR RwA at R
  have no : ∀ {z : Int32}, s.1 (b + 21) k = z → ¬ (124 : Int32) = z → False := fun y z => z (w.symm.trans y)
  rcases R with ⟨y, -⟩ | ⟨y, -⟩ | ⟨y, -⟩ | ⟨y, -⟩ | ⟨y, -⟩ | ⟨y, -⟩ | ⟨y, -⟩ | ⟨y, -⟩ | ⟨y, -⟩ | ⟨-, -, ⟨-, z⟩ | ⟨-, z⟩ | ⟨-, -, -, z⟩⟩
  · exact (no y (by decide)).elim
  · exact (no y (by decide)).elim
  · exact (no y (by decide)).elim
  · exact (no y (by decide)).elim
  · exact (no y (by decide)).elim
  · exact (no y (by decide)).elim
  · exact (no y (by decide)).elim
  · exact (no y (by decide)).elim
  · exact (no y (by decide)).elim
  · exact Or.inr (Or.inl z)
  · exact Or.inr (Or.inr (Or.inl z))
  · exact Or.inr (Or.inr (Or.inr z))
/-! the turns of the loops that are open ahead of a row -/
def TnR (c X n : Nat) (s t : Sg) : Prop := ∀ p : Nat, p < X → p < n → t.1 1 (110 + 6 * p) = 25 → (n : Int) ≤ (t.1 1 (110 + 6 * p + 4)).toInt → s.1 c p = t.1 10 p + 1 ∧ 0 ≤ (t.1 10 p).toInt ∧ (t.1 10 p).toInt ≤ 98
theorem tn_c {c X n : Nat} {s t s' t' : Sg} (h : TnR c X n s t) (hs : s'.1 c = s.1 c) (ht : t'.1 10 = t.1 10) (hM : ∀ p, 110 ≤ p → t'.1 1 p = t.1 1 p) : TnR c X n s' t' := fun p p1 p2 p3 p4 => by
  rw [hM _ (by omega)] at p3 p4
  rw [hs, ht]
  exact h p p1 p2 p3 p4
theorem tn_f {c X n : Nat} {s t : Sg} (h : TnR c X n s t) (hn : ¬ t.1 1 (110 + 6 * n) = 25) : TnR c X (n + 1) s t := fun p p1 p2 p3 p4 => by
  have z : ¬ p = n := fun z => hn (by rw [← z]; exact p3)
  exact h p p1 (by omega) p3 (by omega)
theorem tn_l {c X n : Nat} {s t : Sg} (h : TnR c X n s t) {v : Int32} (hv : 1 ≤ v.toInt ∧ v.toInt ≤ 99) : TnR c X (n + 1) (pI s c n v) (pI t 10 n (v - 1)) := fun p p1 p2 p3 p4 => by
  rw [q_nc rfl] at p3 p4
  have e1 : (1 : Int32).toInt = 1 := rfl
  have sb : (v - 1).toInt = v.toInt - (1 : Int32).toInt := i_subx _ _ (by omega)
  have ad : ((v - 1) + 1).toInt = (v - 1).toInt + (1 : Int32).toInt := i_addx _ _ (by omega)
  by_cases z : p = n
  · subst z
    rw [q_eq, q_eq]
    exact ⟨Int32.toInt_inj.mp (by omega), by omega, by omega⟩
  · rw [pI_1, if_neg (fun y => z y.2), pI_1, if_neg (fun y => z y.2)]
    exact h p p1 (by omega) p3 (by omega)
theorem tn_e {c X n : Nat} {s t s' t' : Sg} (h : TnR c X n s t) {p : Nat} (hs : ∀ q, ¬ q = p → s'.1 c q = s.1 c q) (ht : ∀ q, ¬ q = p → t'.1 10 q = t.1 10 q) (h1 : t'.1 1 = t.1 1) (hn : ¬ t.1 1 (110 + 6 * n) = 25) (hp : (t.1 1 (110 + 6 * p + 4)).toInt = (n : Int)) : TnR c X (n + 1) s' t' := fun q q1 q2 q3 q4 => by
  rw [h1] at q3 q4
  have ne : ¬ q = p := fun z => by
    rw [z, hp] at q4
    omega
  have nn : ¬ q = n := fun z => hn (by rw [← z]; exact q3)
  rw [hs q ne, ht q ne]
  exact h q q1 (by omega) q3 (by omega)
theorem tn_b {c X n : Nat} {s t s' t' : Sg} (P : PgX X s (t.1 1)) (h : TnR c X n s t) {p : Nat} (pn : p < n) (hn : n < X) (b : t.1 1 (110 + 6 * p) = 25) (hp : (t.1 1 (110 + 6 * p + 4)).toInt = (n : Int)) (hs : ∀ q, ¬ q = p → s'.1 c q = s.1 c q) (ht : ∀ q, ¬ q = p → t'.1 10 q = t.1 10 q) (h1 : t'.1 1 = t.1 1) (new : s'.1 c p = t'.1 10 p + 1 ∧ 0 ≤ (t'.1 10 p).toInt ∧ (t'.1 10 p).toInt ≤ 98) : TnR c X (p + 1) s' t' := fun q q1 q2 q3 q4 => by
  rw [h1] at q3 q4
  by_cases z : q = p
  · rw [z]; exact new
  · rw [hs q z, ht q z]
    have y := pg_in P (show q < p by omega) (by omega) (Or.inl q3) (Or.inl b) (by omega)
    exact h q q1 (by omega) q3 (by omega)
theorem tn_j {c X n : Nat} {s t : Sg} (P : PgX X s (t.1 1)) (h : TnR c X n s t) (b : Blk (t.1 1 (110 + 6 * n))) (nl : ¬ t.1 1 (110 + 6 * n) = 25) {e : Nat} (he : (t.1 1 (110 + 6 * n + 4)).toInt = (e : Int)) (ne : n < e) (e26 : t.1 1 (110 + 6 * e) = 26) : TnR c X (e + 1) s t := fun q q1 q2 q3 q4 => by
  have qe : ¬ q = e := fun z => by
    rw [z, e26] at q3
    exact absurd q3 (by decide)
  have qn : ¬ q = n := fun z => nl (by rw [← z]; exact q3)
  by_cases z : q < n
  · exact h q q1 z q3 (by omega)
  · have y := pg_in P (show n < q by omega) q1 b (Or.inl q3) (by omega)
    omega
/-! how often the class goes round -/
def GdE (X n : Nat) (a : Int) (t : Sg) : Prop := 0 ≤ a ∧ a ≤ 161 * (t.1 0 30).toInt ∧ (n < X → t.1 1 (110 + 6 * n) = 26 → a + (60 - (n : Int)) ≤ 161 * (t.1 0 30).toInt ∧ ∀ p : Nat, p + 1 = n → t.1 1 (110 + 6 * p) = 25 → a + (60 - (n : Int)) + (t.1 10 p).toInt ≤ 161 * (t.1 0 30).toInt)
theorem gd_new {c X n : Nat} {s t : Sg} {a : Int} (P : PgX X s (t.1 1)) (T : TnR c X n s t) (h0 : 0 ≤ a) (h1 : a + 160 ≤ 161 * (t.1 0 30).toInt) : GdE X n a t := by
  refine ⟨h0, by omega, fun hn _ => ⟨by omega, fun p hp hb => ?_⟩⟩
  obtain ⟨e, ⟨e1, e2⟩, e3, -⟩ := pg_blk P (show p < X by omega) (Or.inl hb)
  have w := T p (by omega) (by omega) hb (by omega)
  omega
theorem gd_f {X n : Nat} {t t' : Sg} {a : Int} (hn : n < X) (hX : X ≤ 60) (e : t.1 1 (110 + 6 * n) = 26) (G : GdE X n a t) (h1 : t'.1 1 = t.1 1) (h30 : t'.1 0 30 = t.1 0 30) : GdE X (n + 1) (a + 1) t' := by
  have g := G.2.2 hn e
  have g0 := G.1
  refine ⟨by omega, by rw [h30]; omega, fun _ _ => ⟨by rw [h30]; omega, fun p hp hb => ?_⟩⟩
  rw [h1, show p = n by omega, e] at hb
  exact absurd hb (by decide)
theorem gd_b {X n p : Nat} {s t t' : Sg} {a : Int} (P : PgX X s (t.1 1)) (hn : n < X) (e : t.1 1 (110 + 6 * n) = 26) (G : GdE X n a t) (pn : p < n) (b : t.1 1 (110 + 6 * p) = 25) (hp : (t.1 1 (110 + 6 * p + 4)).toInt = (n : Int)) (h1 : t'.1 1 = t.1 1) (h30 : t'.1 0 30 = t.1 0 30) (h10 : (t'.1 10 p).toInt = (t.1 10 p).toInt - 1) (pos : 1 ≤ (t.1 10 p).toInt) : GdE X (p + 1) (a + 1) t' := by
  have g := G.2.2 hn e
  have g0 := G.1
  have hX := P.1.2.2.2
  refine ⟨by omega, by rw [h30]; omega, fun p1 e26 => ?_⟩
  rw [h1] at e26
  by_cases z : p + 1 = n
  · have w := g.2 p z b
    refine ⟨by rw [h30]; omega, fun q hq _ => ?_⟩
    have y : q = p := by omega
    rw [y, h30, h10]
    omega
  · exfalso
    obtain ⟨r, r1, r2, r3, r4⟩ := pg_end P p1 e26
    have rp : ¬ r = p := fun y => by
      rw [y] at r4
      omega
    have y := pg_in P (show r < p by omega) (by omega) r3 (Or.inl b) (by omega)
    omega
/-! one program stands for another where it answers -/
def Sb {α : Type} (o o' : Option α) : Prop := ∀ x, o = some x → o' = some x
theorem sb_r {α : Type} {o : Option α} : Sb o o := fun _ h => h
theorem sb_c {α : Type} {c : Prop} [Decidable c] {k o : Option α} (h : c → Sb k o) : Sb (ck c k) o := by
  unfold ck
  by_cases q : c
  · rw [if_pos q]; exact h q
  · rw [if_neg q]; intro x e; cases e
theorem sb_n {α γ : Type} {e : γ} {k : γ → Option α} {o : Option α} (h : ∀ x, x = e → Sb (k x) o) : Sb (nmx e k) o := h e rfl
theorem rq_sb {α β β' : Type} {o o' : Option (β' × Sg)} {K : β' → Sg → Option (β × Sg)} {oC : Option (α × Sg)} {R : α → Sg → β → Sg → Prop} (h : Sb o o') (g : RQ oC (bd o' K) R) : RQ oC (bd o K) R := by
  cases o with
  | none => intro a s b t _ e; cases e
  | some q =>
    rw [h q rfl] at g
    exact g
theorem rw_x {a : Int32} {k : Nat} (ha : a.toInt = (k : Int)) (hk : k ≤ 60) : (110 + 6 * a).toInt = 110 + 6 * (k : Int) ∧ (110 + 6 * a).toNatClampNeg = 110 + 6 * k ∧ ((110 + 6 * a) + 1).toNatClampNeg = 110 + 6 * k + 1 ∧ ((110 + 6 * a) + 4).toNatClampNeg = 110 + 6 * k + 4 := by
  have e6 : (6 : Int32).toInt = 6 := rfl
  have e110 : (110 : Int32).toInt = 110 := rfl
  have e1 : (1 : Int32).toInt = 1 := rfl
  have e4 : (4 : Int32).toInt = 4 := rfl
  have m1 : (6 * a).toInt = 6 * a.toInt := i_mulx 6 a (show -2147483648 ≤ 6 * a.toInt ∧ 6 * a.toInt ≤ 2147483647 from by omega)
  have x1 : (110 + 6 * a).toInt = (110 : Int32).toInt + (6 * a).toInt := i_addx _ _ (by omega)
  have x2 : ((110 + 6 * a) + 1).toInt = (110 + 6 * a).toInt + (1 : Int32).toInt := i_addx _ _ (by omega)
  have x3 : ((110 + 6 * a) + 4).toInt = (110 + 6 * a).toInt + (4 : Int32).toInt := i_addx _ _ (by omega)
  exact ⟨by omega, cl_h (by omega), cl_h (by omega), cl_h (by omega)⟩
/-- the reference at a row that is no END -/
theorem be_0 {v : Int32} {n X : Nat} {t : Sg} (hv : v.toInt = (n : Int)) (hX : (t.1 1 11).toInt = (X : Int)) (h60 : X ≤ 60) (h : n < X → ¬ t.1 1 (110 + 6 * n) = 26) (m : Nat) : PQ (f_X12_behindEnds_b2 m v t) (fun r t' => r = v ∧ t' = t) := by
  cases m with
  | zero => intro r t' e; cases e
  | succ m =>
    unfold f_X12_behindEnds_b2
    refine pq_if (fun _ => pq_s ⟨rfl, rfl⟩) (fun c => pq_c (fun _ => ?_))
    have c := i_nle c
    have nX : n < X := by omega
    rw [(rw_x hv (by omega)).2.1, if_neg (h nX)]
    exact pq_s ⟨rfl, rfl⟩
/-- the reference at an END -/
theorem be_1 {v : Int32} {n p X : Nat} {t : Sg} (hv : v.toInt = (n : Int)) (hX : (t.1 1 11).toInt = (X : Int)) (h60 : X ≤ 60) (nX : n < X) (e26 : t.1 1 (110 + 6 * n) = 26) (hp : (t.1 1 (110 + 6 * n + 4)).toInt = (p : Int)) (pX : p < X) (m : Nat) : (¬ t.1 1 (110 + 6 * p) = 25 → Sb (f_X12_behindEnds_b2 (m + 1) v t) (f_X12_behindEnds_b2 m (v + 1) (pI t 10 p (t.1 10 p - 0)))) ∧ (t.1 1 (110 + 6 * p) = 25 → t.1 10 p ≤ 0 → Sb (f_X12_behindEnds_b2 (m + 1) v t) (f_X12_behindEnds_b2 m (v + 1) (pI t 10 p (t.1 10 p - 0)))) ∧ (t.1 1 (110 + 6 * p) = 25 → ¬ t.1 10 p ≤ 0 → Sb (f_X12_behindEnds_b2 (m + 1) v t) (f_X12_behindEnds_b2 m (t.1 1 (110 + 6 * n + 4) + 1) (pI t 10 p (t.1 10 p - 1)))) := by
  have ix := rw_x hv (by omega)
  have iy := rw_x hp (by omega)
  have cp := cl_h hp
  have hd : ¬ (t.1 1 11) ≤ v := fun z => by
    have z := i_le z
    omega
  have st : ∀ o : Option (Int32 × Sg), Sb (if (t.1 1 (110 + 6 * p)) = 25 then ck (inr (t.1 1 (110 + 6 * n + 4)) 80) (if (t.1 10 (t.1 1 (110 + 6 * n + 4)).toNatClampNeg) ≤ 0 then f_X12_behindEnds_b75 (f_X12_behindEnds_b2 m) v (t.1 1 (110 + 6 * n + 4)) t else f_X12_behindEnds_b76 (f_X12_behindEnds_b2 m) v (t.1 1 (110 + 6 * n + 4)) 1 t) else f_X12_behindEnds_b75 (f_X12_behindEnds_b2 m) v (t.1 1 (110 + 6 * n + 4)) t) o → Sb (f_X12_behindEnds_b2 (m + 1) v t) o := fun o h => by
    unfold f_X12_behindEnds_b2
    rw [if_neg hd]
    refine sb_c (fun _ => ?_)
    rw [ix.2.1, if_pos e26]
    refine sb_c (fun _ => sb_n (fun x3 e3 => sb_c (fun _ => ?_)))
    rw [ix.2.2.2] at e3
    subst e3
    rw [iy.2.1]
    exact h
  have b0 : Sb (f_X12_behindEnds_b75 (f_X12_behindEnds_b2 m) v (t.1 1 (110 + 6 * n + 4)) t) (f_X12_behindEnds_b2 m (v + 1) (pI t 10 p (t.1 10 p - 0))) := by
    unfold f_X12_behindEnds_b75 f_X12_behindEnds_b76 f_X12_behindEnds_b95
    refine sb_c (fun _ => ?_)
    rw [if_pos rfl]
    refine sb_c (fun _ => sb_n (fun s8 e8 => ?_))
    rw [if_pos rfl, e8, cp]
    exact sb_r
  have b1 : Sb (f_X12_behindEnds_b76 (f_X12_behindEnds_b2 m) v (t.1 1 (110 + 6 * n + 4)) 1 t) (f_X12_behindEnds_b2 m (t.1 1 (110 + 6 * n + 4) + 1) (pI t 10 p (t.1 10 p - 1))) := by
    unfold f_X12_behindEnds_b76 f_X12_behindEnds_b95
    refine sb_c (fun _ => ?_)
    rw [if_neg (by decide)]
    refine sb_c (fun _ => sb_n (fun s8 e8 => ?_))
    rw [if_neg (by decide), e8, cp]
    exact sb_r
  refine ⟨fun h => st _ ?_, fun h g => st _ ?_, fun h g => st _ ?_⟩
  · rw [if_neg h]; exact b0
  · rw [if_pos h]
    refine sb_c (fun _ => ?_)
    rw [cp, if_pos g]
    exact b0
  · rw [if_pos h]
    refine sb_c (fun _ => ?_)
    rw [cp, if_neg g]
    exact b1
/-- the class at an END -/
theorem ce_1 {v : Int32} {n p : Nat} {s : Sg} (hv : v.toInt = (n : Int)) (hp : (s.1 50 n).toInt = (p : Int)) : PQ (f_X3_behindEnd_27 v s) (fun r s' => (¬ s.1 45 p = 128 → r = v + 1 ∧ s' = s) ∧ (s.1 45 p = 128 → s' = pI s 18 p (s.1 18 p - 1) ∧ (s.1 18 p - 1 ≤ 0 → r = v + 1) ∧ (¬ s.1 18 p - 1 ≤ 0 → r = s.1 50 n + 1))) := by
  unfold f_X3_behindEnd_27
  refine pq_c (fun _ => ?_)
  rw [cl_h hv]
  refine pq_c (fun _ => ?_)
  rw [cl_h hp]
  refine (pq_if (fun c => pq_n (fun s3 e3 => ?_)) (fun c => pq_s ⟨fun _ => ⟨rfl, rfl⟩, fun z => absurd z c⟩))
  subst e3
  rw [q_eq]
  exact pq_if (fun d => pq_s ⟨fun z => absurd c z, fun _ => ⟨rfl, fun _ => rfl, fun z => absurd d z⟩⟩) (fun d => pq_s ⟨fun z => absurd c z, fun _ => ⟨rfl, fun z => absurd z d, fun _ => rfl⟩⟩)
def LfB (X : Nat) (K : Int) (s t : Sg) : Prop := ((NowG 0 s t ∧ DyE s t) ∧ TlR 0 s t ∧ (GnR (t.1 1) (K + 400 * (t.1 0 30).toInt) ∧ 0 ≤ (t.1 0 30).toInt ∧ (t.1 0 30).toInt ≤ 300)) ∧ PgX X s (t.1 1) ∧ s.1 4 8 = t.1 11 4 ∧ s.1 4 1 = 1
theorem lfb_k {X : Nat} {K : Int} {s t s' t' : Sg} (h : LfB X K s t) (hs : ∀ c, ¬ c = 18 → s'.1 c = s.1 c) (ht : ∀ c, ¬ c = 10 → t'.1 c = t.1 c) : LfB X K s' t' := by
  obtain ⟨⟨⟨h1, h2⟩, h3, h4, h5, h6⟩, h7, h8⟩ := h
  have t0 := ht 0 (by decide)
  have t1 := ht 1 (by decide)
  have t11 := ht 11 (by decide)
  refine ⟨⟨⟨ng_k h1 (fun c hc => hs c (by omega)) (fun k _ => by rw [t1]) (by rw [t0]), ?_⟩, tl_k h3 (fun k _ _ => by rw [hs 4 (by decide)]) t11 (by rw [t0]) (by rw [t0]), ?_⟩, pgx_k h7 (fun c hc => hs c (by omega)) (fun p _ => by rw [t1]), ?_⟩
  · exact dye_k h2 (by rw [hs 26 (by decide)]) (by rw [t1])
  · rw [t0, t1]; exact ⟨h4, h5, h6⟩
  · rw [hs 4 (by decide), t11]; exact h8
/-- the class behind the last row -/
theorem run_e {v v6 : Int32} {s : Sg} (h : s.1 27 7 ≤ v) (m : Nat) : PQ (f_X3_run_25_26_27_b12 m v v6 s) (fun _ s' => s' = s) := by
  cases m with
  | zero => intro r s' e; cases e
  | succ m =>
    unfold f_X3_run_25_26_27_b12
    exact pq_if (fun _ => pq_s rfl) (fun _ => pq_if (fun _ => pq_s rfl) (fun c => absurd h c))
def HdE (X : Nat) (K : Int) (m : Nat) : Prop := ∀ (m1 m2 n : Nat) (v v6 : Int32) (s t : Sg), v.toInt = (n : Int) → n ≤ X → LfB X K s t → TnR 18 X n s t → GdE X n v6.toInt t → RQ (f_X3_run_25_26_27_b12 m v v6 s) (bd (f_X12_behindEnds_b2 m1 v t) (fun r t' => f_X12_lives_b32 m2 r t')) (fun _ s' _ t' => LfB X K s' t')
def HdL (X : Nat) (K : Int) (m : Nat) : Prop := ∀ (m2 n : Nat) (v v6 : Int32) (s t : Sg), v.toInt = (n : Int) → n ≤ X → LfB X K s t → TnR 18 X n s t → (n < X → ¬ t.1 1 (110 + 6 * n) = 26) → 0 ≤ v6.toInt → v6.toInt ≤ 161 * (t.1 0 30).toInt → RQ (f_X3_run_25_26_27_b12 m v v6 s) (f_X12_lives_b32 m2 v t) (fun _ s' _ t' => LfB X K s' t')
theorem hd_e {X : Nat} {K : Int} {m : Nat} (ih : HdE X K m) (L : HdL X K (m + 1)) : HdE X K (m + 1) := fun m1 m2 n v v6 s t hv hn B T G => by
  have hX := B.2.1.1
  have st := B.1.2.2.2
  have e1 : (1 : Int32).toInt = 1 := rfl
  by_cases E : n < X ∧ t.1 1 (110 + 6 * n) = 26
  · obtain ⟨nX, e26⟩ := E
    cases m1 with
    | zero => intro a s' b t' _ e; cases e
    | succ m1 =>
    have P := B.2.1
    obtain ⟨p, p1, p2, p3, p4⟩ := pg_end P nX e26
    have pX : p < X := by omega
    have R := P.2.1 n nX
    have Rp := P.2.1 p pX
    have w45 : s.1 45 n = 129 := (rw_kd R.1.1).1.mpr e26
    have w50 : s.1 50 n = t.1 1 (110 + 6 * n + 4) := R.2 (Or.inr (Or.inr w45))
    have g0 := G.1
    have g1 := G.2.1
    have g2 := G.2.2 nX e26
    have a6 : (v6 + 1).toInt = v6.toInt + (1 : Int32).toInt := i_addx _ _ (by omega)
    have av : (v + 1).toInt = v.toInt + (1 : Int32).toInt := i_addx _ _ (by omega)
    have no25 : ¬ t.1 1 (110 + 6 * n) = 25 := by rw [e26]; decide
    have be := be_1 hv hX.2.2.1 hX.2.2.2 nX e26 p2 pX m1
    have i128 : s.1 45 p = 128 ↔ t.1 1 (110 + 6 * p) = 25 := (rw_kd Rp.1.1).2.1
    have q1 : ∀ x, (pI t 10 p x).1 1 = t.1 1 := fun x => pI_o _ _ _ _ _ (by decide)
    have q30 : ∀ x, (pI t 10 p x).1 0 30 = t.1 0 30 := fun x => q_nc rfl
    have ks : ∀ x c, ¬ c = 18 → (pI s 18 p x).1 c = s.1 c := fun x c hc => pI_o _ _ _ _ _ hc
    have kt : ∀ x c, ¬ c = 10 → (pI t 10 p x).1 c = t.1 c := fun x c hc => pI_o _ _ _ _ _ hc
    have kq : ∀ x q, ¬ q = p → (pI t 10 p x).1 10 q = t.1 10 q := fun x q hq => by rw [pI_1, if_neg (fun z => hq z.2)]
    have kc : ∀ x q, ¬ q = p → (pI s 18 p x).1 18 q = s.1 18 q := fun x q hq => by rw [pI_1, if_neg (fun z => hq z.2)]
    unfold f_X3_run_25_26_27_b12
    refine rq_iC (fun c => ?_) (fun _ => rq_iC (fun c => ?_) (fun _ => rq_cC (fun _ => ?_)))
    · exfalso
      have c := i_le c
      have e : (1000000 : Int32).toInt = 1000000 := rfl
      omega
    · exfalso
      rw [hX.2.1] at c
      have c := i_le c
      omega
    rw [cl_h hv, if_pos w45]
    refine rq_bC (ce_1 hv (by rw [w50]; exact p2)) (fun r4 s5 k => ?_)
    by_cases b25 : t.1 1 (110 + 6 * p) = 25
    · obtain ⟨k1, k2, k3⟩ := k.2 (i128.mpr b25)
      have tn := T p pX p1 b25 (by omega)
      have ee : s.1 18 p - 1 = t.1 10 p := by
        have ad : (t.1 10 p + 1).toInt = (t.1 10 p).toInt + (1 : Int32).toInt := i_addx _ _ (by omega)
        rw [tn.1]
        apply Int32.toInt_inj.mp
        rw [i_subx _ _ (by omega)]
        omega
      rw [ee] at k1 k2 k3
      subst k1
      have sb : (t.1 10 p - 1).toInt = (t.1 10 p).toInt - (1 : Int32).toInt := i_subx _ _ (by omega)
      by_cases z : t.1 10 p ≤ 0
      · rw [k2 z]
        refine rq_sb (be.2.1 b25 z) ?_
        rw [sub0]
        refine ih m1 m2 (n + 1) (v + 1) (v6 + 1) _ _ (by omega) (by omega) (lfb_k B (ks _) (kt _)) (tn_e T (p := p) (kc _) (kq _) (q1 _) no25 p4) ?_
        rw [a6]
        exact gd_f nX hX.2.2.2 e26 G (q1 _) (q30 _)
      · rw [k3 z, w50]
        refine rq_sb (be.2.2 b25 z) ?_
        have z := i_nle z
        have e0 : (0 : Int32).toInt = 0 := rfl
        have ap : (t.1 1 (110 + 6 * n + 4) + 1).toInt = (t.1 1 (110 + 6 * n + 4)).toInt + (1 : Int32).toInt := i_addx _ _ (by omega)
        refine ih m1 m2 (p + 1) _ (v6 + 1) _ _ (by omega) (by omega) (lfb_k B (ks _) (kt _)) (tn_b P T p1 nX b25 p4 (kc _) (kq _) (q1 _) ?_) ?_
        · rw [q_eq, q_eq]
          refine ⟨Int32.toInt_inj.mp ?_, by omega, by omega⟩
          rw [i_addx _ _ (by omega)]
          omega
        · rw [a6]
          exact gd_b P nX e26 G p1 b25 p4 (q1 _) (q30 _) (by rw [q_eq]; exact sb) (by omega)
    · obtain ⟨k1, k2⟩ := k.1 (fun z => b25 (i128.mp z))
      rw [k1, k2]
      refine rq_sb (be.1 b25) ?_
      rw [sub0]
      refine ih m1 m2 (n + 1) (v + 1) (v6 + 1) _ _ (by omega) (by omega) (lfb_k B (fun _ _ => rfl) (kt _)) (tn_e T (p := p) (fun _ _ => rfl) (kq _) (q1 _) no25 p4) ?_
      rw [a6]
      exact gd_f nX hX.2.2.2 e26 G (q1 _) (q30 _)
  · have ne : n < X → ¬ t.1 1 (110 + 6 * n) = 26 := fun a b => E ⟨a, b⟩
    refine rq_bM (be_0 hv hX.2.2.1 hX.2.2.2 ne m1) (fun r t2 k => ?_)
    obtain ⟨k1, k2⟩ := k
    rw [k1, k2]
    exact L m2 n v v6 s t hv hn B T ne G.1 G.2.1
/-- the class at an END -/
theorem ce_1z {v : Int32} {n p : Nat} {s : Sg} (hv : v.toInt = (n : Int)) (hp : (s.1 50 n).toInt = (p : Int)) : PQ (f_X3_behindEnd_27_5 v s) (fun r s' => (¬ s.1 45 p = 128 → r = v + 1 ∧ s' = s) ∧ (s.1 45 p = 128 → s' = pI s 19 p (s.1 19 p - 1) ∧ (s.1 19 p - 1 ≤ 0 → r = v + 1) ∧ (¬ s.1 19 p - 1 ≤ 0 → r = s.1 50 n + 1))) := by
  unfold f_X3_behindEnd_27_5
  refine pq_c (fun _ => ?_)
  rw [cl_h hv]
  refine pq_c (fun _ => ?_)
  rw [cl_h hp]
  refine (pq_if (fun c => pq_n (fun s3 e3 => ?_)) (fun c => pq_s ⟨fun _ => ⟨rfl, rfl⟩, fun z => absurd z c⟩))
  subst e3
  rw [q_eq]
  exact pq_if (fun d => pq_s ⟨fun z => absurd c z, fun _ => ⟨rfl, fun _ => rfl, fun z => absurd d z⟩⟩) (fun d => pq_s ⟨fun z => absurd c z, fun _ => ⟨rfl, fun z => absurd z d, fun _ => rfl⟩⟩)
def LfBz (X : Nat) (K : Int) (s t : Sg) : Prop := ((NowG 27 s t ∧ DyEz s t) ∧ TlRz 0 s t ∧ (GnR (t.1 1) (K + 400 * (t.1 0 30).toInt) ∧ 0 ≤ (t.1 0 30).toInt ∧ (t.1 0 30).toInt ≤ 300)) ∧ PgX X s (t.1 1) ∧ s.1 5 8 = t.1 11 4 ∧ s.1 5 1 = 1
theorem lfb_kz {X : Nat} {K : Int} {s t s' t' : Sg} (h : LfBz X K s t) (hs : ∀ c, ¬ c = 19 → s'.1 c = s.1 c) (ht : ∀ c, ¬ c = 10 → t'.1 c = t.1 c) : LfBz X K s' t' := by
  obtain ⟨⟨⟨h1, h2⟩, h3, h4, h5, h6⟩, h7, h8⟩ := h
  have t0 := ht 0 (by decide)
  have t1 := ht 1 (by decide)
  have t11 := ht 11 (by decide)
  refine ⟨⟨⟨ng_k h1 (fun c hc => hs c (by omega)) (fun k _ => by rw [t1]) (by rw [t0]), ?_⟩, tl_kz h3 (fun k _ _ => by rw [hs 5 (by decide)]) t11 (by rw [t0]) (by rw [t0]), ?_⟩, pgx_k h7 (fun c hc => hs c (by omega)) (fun p _ => by rw [t1]), ?_⟩
  · exact dye_kz h2 (by rw [hs 53 (by decide)]) (by rw [t1])
  · rw [t0, t1]; exact ⟨h4, h5, h6⟩
  · rw [hs 5 (by decide), t11]; exact h8
/-- the class behind the last row -/
theorem run_ez {v v6 : Int32} {s : Sg} (h : s.1 27 7 ≤ v) (m : Nat) : PQ (f_X3_run_25_53_27_5_b12 m v v6 s) (fun _ s' => s' = s) := by
  cases m with
  | zero => intro r s' e; cases e
  | succ m =>
    unfold f_X3_run_25_53_27_5_b12
    exact pq_if (fun _ => pq_s rfl) (fun _ => pq_if (fun _ => pq_s rfl) (fun c => absurd h c))
def HdEz (X : Nat) (K : Int) (m : Nat) : Prop := ∀ (m1 m2 n : Nat) (v v6 : Int32) (s t : Sg), v.toInt = (n : Int) → n ≤ X → LfBz X K s t → TnR 19 X n s t → GdE X n v6.toInt t → RQ (f_X3_run_25_53_27_5_b12 m v v6 s) (bd (f_X12_behindEnds_b2 m1 v t) (fun r t' => f_X12_lives_b32 m2 r t')) (fun _ s' _ t' => LfBz X K s' t')
def HdLz (X : Nat) (K : Int) (m : Nat) : Prop := ∀ (m2 n : Nat) (v v6 : Int32) (s t : Sg), v.toInt = (n : Int) → n ≤ X → LfBz X K s t → TnR 19 X n s t → (n < X → ¬ t.1 1 (110 + 6 * n) = 26) → 0 ≤ v6.toInt → v6.toInt ≤ 161 * (t.1 0 30).toInt → RQ (f_X3_run_25_53_27_5_b12 m v v6 s) (f_X12_lives_b32 m2 v t) (fun _ s' _ t' => LfBz X K s' t')
theorem hd_ez {X : Nat} {K : Int} {m : Nat} (ih : HdEz X K m) (L : HdLz X K (m + 1)) : HdEz X K (m + 1) := fun m1 m2 n v v6 s t hv hn B T G => by
  have hX := B.2.1.1
  have st := B.1.2.2.2
  have e1 : (1 : Int32).toInt = 1 := rfl
  by_cases E : n < X ∧ t.1 1 (110 + 6 * n) = 26
  · obtain ⟨nX, e26⟩ := E
    cases m1 with
    | zero => intro a s' b t' _ e; cases e
    | succ m1 =>
    have P := B.2.1
    obtain ⟨p, p1, p2, p3, p4⟩ := pg_end P nX e26
    have pX : p < X := by omega
    have R := P.2.1 n nX
    have Rp := P.2.1 p pX
    have w45 : s.1 45 n = 129 := (rw_kd R.1.1).1.mpr e26
    have w50 : s.1 50 n = t.1 1 (110 + 6 * n + 4) := R.2 (Or.inr (Or.inr w45))
    have g0 := G.1
    have g1 := G.2.1
    have g2 := G.2.2 nX e26
    have a6 : (v6 + 1).toInt = v6.toInt + (1 : Int32).toInt := i_addx _ _ (by omega)
    have av : (v + 1).toInt = v.toInt + (1 : Int32).toInt := i_addx _ _ (by omega)
    have no25 : ¬ t.1 1 (110 + 6 * n) = 25 := by rw [e26]; decide
    have be := be_1 hv hX.2.2.1 hX.2.2.2 nX e26 p2 pX m1
    have i128 : s.1 45 p = 128 ↔ t.1 1 (110 + 6 * p) = 25 := (rw_kd Rp.1.1).2.1
    have q1 : ∀ x, (pI t 10 p x).1 1 = t.1 1 := fun x => pI_o _ _ _ _ _ (by decide)
    have q30 : ∀ x, (pI t 10 p x).1 0 30 = t.1 0 30 := fun x => q_nc rfl
    have ks : ∀ x c, ¬ c = 19 → (pI s 19 p x).1 c = s.1 c := fun x c hc => pI_o _ _ _ _ _ hc
    have kt : ∀ x c, ¬ c = 10 → (pI t 10 p x).1 c = t.1 c := fun x c hc => pI_o _ _ _ _ _ hc
    have kq : ∀ x q, ¬ q = p → (pI t 10 p x).1 10 q = t.1 10 q := fun x q hq => by rw [pI_1, if_neg (fun z => hq z.2)]
    have kc : ∀ x q, ¬ q = p → (pI s 19 p x).1 19 q = s.1 19 q := fun x q hq => by rw [pI_1, if_neg (fun z => hq z.2)]
    unfold f_X3_run_25_53_27_5_b12
    refine rq_iC (fun c => ?_) (fun _ => rq_iC (fun c => ?_) (fun _ => rq_cC (fun _ => ?_)))
    · exfalso
      have c := i_le c
      have e : (1000000 : Int32).toInt = 1000000 := rfl
      omega
    · exfalso
      rw [hX.2.1] at c
      have c := i_le c
      omega
    rw [cl_h hv, if_pos w45]
    refine rq_bC (ce_1z hv (by rw [w50]; exact p2)) (fun r4 s5 k => ?_)
    by_cases b25 : t.1 1 (110 + 6 * p) = 25
    · obtain ⟨k1, k2, k3⟩ := k.2 (i128.mpr b25)
      have tn := T p pX p1 b25 (by omega)
      have ee : s.1 19 p - 1 = t.1 10 p := by
        have ad : (t.1 10 p + 1).toInt = (t.1 10 p).toInt + (1 : Int32).toInt := i_addx _ _ (by omega)
        rw [tn.1]
        apply Int32.toInt_inj.mp
        rw [i_subx _ _ (by omega)]
        omega
      rw [ee] at k1 k2 k3
      subst k1
      have sb : (t.1 10 p - 1).toInt = (t.1 10 p).toInt - (1 : Int32).toInt := i_subx _ _ (by omega)
      by_cases z : t.1 10 p ≤ 0
      · rw [k2 z]
        refine rq_sb (be.2.1 b25 z) ?_
        rw [sub0]
        refine ih m1 m2 (n + 1) (v + 1) (v6 + 1) _ _ (by omega) (by omega) (lfb_kz B (ks _) (kt _)) (tn_e T (p := p) (kc _) (kq _) (q1 _) no25 p4) ?_
        rw [a6]
        exact gd_f nX hX.2.2.2 e26 G (q1 _) (q30 _)
      · rw [k3 z, w50]
        refine rq_sb (be.2.2 b25 z) ?_
        have z := i_nle z
        have e0 : (0 : Int32).toInt = 0 := rfl
        have ap : (t.1 1 (110 + 6 * n + 4) + 1).toInt = (t.1 1 (110 + 6 * n + 4)).toInt + (1 : Int32).toInt := i_addx _ _ (by omega)
        refine ih m1 m2 (p + 1) _ (v6 + 1) _ _ (by omega) (by omega) (lfb_kz B (ks _) (kt _)) (tn_b P T p1 nX b25 p4 (kc _) (kq _) (q1 _) ?_) ?_
        · rw [q_eq, q_eq]
          refine ⟨Int32.toInt_inj.mp ?_, by omega, by omega⟩
          rw [i_addx _ _ (by omega)]
          omega
        · rw [a6]
          exact gd_b P nX e26 G p1 b25 p4 (q1 _) (q30 _) (by rw [q_eq]; exact sb) (by omega)
    · obtain ⟨k1, k2⟩ := k.1 (fun z => b25 (i128.mp z))
      rw [k1, k2]
      refine rq_sb (be.1 b25) ?_
      rw [sub0]
      refine ih m1 m2 (n + 1) (v + 1) (v6 + 1) _ _ (by omega) (by omega) (lfb_kz B (fun _ _ => rfl) (kt _)) (tn_e T (p := p) (fun _ _ => rfl) (kq _) (q1 _) no25 p4) ?_
      rw [a6]
      exact gd_f nX hX.2.2.2 e26 G (q1 _) (q30 _)
  · have ne : n < X → ¬ t.1 1 (110 + 6 * n) = 26 := fun a b => E ⟨a, b⟩
    refine rq_bM (be_0 hv hX.2.2.1 hX.2.2.2 ne m1) (fun r t2 k => ?_)
    obtain ⟨k1, k2⟩ := k
    rw [k1, k2]
    exact L m2 n v v6 s t hv hn B T ne G.1 G.2.1
/-! life: a step of it on both sides; the whole of it -/
theorem rq_cK {α β γ : Type} {c : Prop} [Decidable c] {k : Option (γ × Sg)} {K : γ → Sg → Option (α × Sg)} {oM : Option (β × Sg)} {R : α → Sg → β → Sg → Prop} (h : c → RQ (bd k K) oM R) : RQ (bd (ck c k) K) oM R := by
  unfold ck
  by_cases q : c
  · rw [if_pos q]; exact h q
  · rw [if_neg q]; intro a s b t e; cases e
theorem rq_iK {α β γ : Type} {c : Prop} [Decidable c] {a b : Option (γ × Sg)} {K : γ → Sg → Option (α × Sg)} {oM : Option (β × Sg)} {R : α → Sg → β → Sg → Prop} (h : c → RQ (bd a K) oM R) (g : ¬ c → RQ (bd b K) oM R) : RQ (bd (if c then a else b) K) oM R := by
  by_cases q : c
  · rw [if_pos q]; exact h q
  · rw [if_neg q]; exact g q
theorem rw_nu {b B k : Nat} {s : Sg} {M : Nat → Int32} (R : RwR b B s M k) (h : M (B + 6 * k) = 25) : s.1 (b + 23) k = M (B + 6 * k + 1) := by
  unfold RwR RwA at R
  have no : ∀ {z : Int32}, M (B + 6 * k) = z → ¬ (25 : Int32) = z → False := fun y z => z (h.symm.trans y)
  rcases R with ⟨-, y, -⟩ | ⟨-, y, -⟩ | ⟨-, y, -⟩ | ⟨-, y, -⟩ | ⟨-, y, -⟩ | ⟨-, y⟩ | ⟨-, -, y⟩ | ⟨-, y⟩ | ⟨-, y⟩ | ⟨-, -, ⟨-, y⟩ | ⟨-, y⟩ | ⟨-, -, -, y⟩⟩
  · exact (no y (by decide)).elim
  · exact (no y (by decide)).elim
  · exact (no y (by decide)).elim
  · exact (no y (by decide)).elim
  · exact (no y (by decide)).elim
  · exact (no y (by decide)).elim
  · exact y
  · exact (no y (by decide)).elim
  · exact (no y (by decide)).elim
  · exact (no y (by decide)).elim
  · exact (no y (by decide)).elim
  · exact (no y (by decide)).elim
theorem bs_0 {v : Int32} {n : Nat} {s : Sg} (hv : v.toInt = (n : Int)) (w1 : ¬ s.1 45 n = 124) (w2 : ¬ s.1 45 n = 128) (w3 : ¬ s.1 45 n = 130) : PQ (f_X3_behindStep_25_26_27 v s) (fun r s' => r = v + 1 ∧ s' = s) := by
  unfold f_X3_behindStep_25_26_27
  refine pq_c (fun _ => ?_)
  rw [cl_h hv, if_neg w1, if_neg w2, if_neg w3]
  exact pq_s ⟨rfl, rfl⟩
theorem bs_l {v : Int32} {n : Nat} {s : Sg} (hv : v.toInt = (n : Int)) (w : s.1 45 n = 128) : PQ (f_X3_behindStep_25_26_27 v s) (fun r s' => r = v + 1 ∧ s' = pI s 18 n (s.1 47 n)) := by
  unfold f_X3_behindStep_25_26_27
  refine pq_c (fun _ => ?_)
  rw [cl_h hv, if_neg (by rw [w]; decide), if_pos w]
  exact pq_n (fun s4 e4 => pq_s ⟨rfl, e4⟩)
theorem bs_s {v : Int32} {n : Nat} {s : Sg} (hv : v.toInt = (n : Int)) (w : s.1 45 n = 130) : PQ (f_X3_behindStep_25_26_27 v s) (fun r s' => r = s.1 27 7 ∧ s' = s) := by
  unfold f_X3_behindStep_25_26_27
  refine pq_c (fun _ => ?_)
  rw [cl_h hv, if_neg (by rw [w]; decide), if_neg (by rw [w]; decide), if_pos w]
  exact pq_s ⟨rfl, rfl⟩
theorem act_st {v : Int32} {n : Nat} {s : Sg} (hv : v.toInt = (n : Int)) (w : s.1 45 n = 130) : PQ (f_X3_act_25_26_27 v s) (fun _ s' => s' = s) := by
  unfold f_X3_act_25_26_27
  refine pq_c (fun _ => ?_)
  rw [cl_h hv, w]
  rw [if_neg (show ¬ (130 : Int32) = 116 by decide), if_neg (show ¬ (130 : Int32) = 117 by decide), if_neg (show ¬ (130 : Int32) = 118 by decide), if_neg (show ¬ (130 : Int32) = 119 by decide), if_neg (show ¬ (130 : Int32) = 120 by decide), if_neg (show ¬ (130 : Int32) = 121 by decide), if_neg (show ¬ (130 : Int32) = 122 by decide), if_neg (show ¬ (130 : Int32) = 123 by decide)]
  exact pq_s rfl
/-- the run is cut short -/
theorem lfb_x {X : Nat} {K : Int} {s t : Sg} (h : LfB X K s t) : LfB X K (pI s 4 8 1) (pI t 11 4 1) := by
  obtain ⟨⟨⟨h1, h2⟩, ⟨t1, t2, t3, t4, t5, t6⟩, h4, h5, h6⟩, h7, h8⟩ := h
  have q1 : (pI t 11 4 1).1 1 = t.1 1 := pI_o _ _ _ _ _ (by decide)
  have q0 : (pI t 11 4 1).1 0 = t.1 0 := pI_o _ _ _ _ _ (by decide)
  refine ⟨⟨⟨ng_k h1 (fun c hc => pI_o _ _ _ _ _ (by omega)) (fun k _ => by rw [q1]) (by rw [q0]), dye_k h2 (q_nc rfl) (by rw [q1])⟩, ⟨?_, ?_, ?_, ?_, ?_, ?_⟩, ?_⟩, ?_, ?_⟩
  · rw [q_ne rfl, q0]; exact t1
  · rw [q_ne rfl, q0]; exact t2
  · rw [q_ne rfl, q_ne rfl]; exact t3
  · rw [q_ne rfl, q_ne rfl]; exact t4
  · rw [q_ne rfl, q_ne rfl]; exact t5
  · rw [q_ne rfl, q_ne rfl]; exact t6
  · rw [q0, q1]; exact ⟨h4, h5, h6⟩
  · rw [q1]
    exact pgx_k h7 (fun c hc => pI_o _ _ _ _ _ (by omega)) (fun p _ => rfl)
  · rw [q_eq, q_eq, q_ne rfl]
    exact ⟨rfl, h8.2⟩
/-- a step is counted -/
theorem lfb_s {X : Nat} {K : Int} {s t : Sg} (h : LfB X K s t) (lt : (t.1 0 30).toInt < 300) : LfB X K (pI s 4 3 (s.1 4 3 + 1)) (pI t 0 30 (t.1 0 30 + 1)) ∧ ((pI t 0 30 (t.1 0 30 + 1)).1 0 30).toInt = (t.1 0 30).toInt + 1 := by
  obtain ⟨⟨⟨h1, h2⟩, ⟨t1, t2, t3, t4, t5, t6⟩, h4, h5, h6⟩, h7, h8⟩ := h
  have e1 : (1 : Int32).toInt = 1 := rfl
  have ad : (t.1 0 30 + 1).toInt = (t.1 0 30).toInt + (1 : Int32).toInt := i_addx _ _ (by omega)
  have q1 : ∀ x, (pI t 0 30 x).1 1 = t.1 1 := fun x => pI_o _ _ _ _ _ (by decide)
  have q11 : ∀ x, (pI t 0 30 x).1 11 = t.1 11 := fun x => pI_o _ _ _ _ _ (by decide)
  refine ⟨⟨⟨⟨ng_k h1 (fun c hc => pI_o _ _ _ _ _ (by omega)) (fun k _ => by rw [q1]) (q_ne rfl), dye_k h2 (q_nc rfl) (by rw [q1])⟩, ⟨?_, ?_, ?_, ?_, ?_, ?_⟩, ?_⟩, ?_, ?_⟩, by rw [q_eq, ad, e1]⟩
  · rw [q_ne rfl, q_ne rfl]; exact t1
  · rw [q_eq, q_eq, t2]
  · rw [q_ne rfl, q11]; exact t3
  · rw [q_ne rfl, q11]; exact t4
  · rw [q_ne rfl, q11]; exact t5
  · rw [q_ne rfl, q11]; exact t6
  · rw [q_eq, q1]
    exact ⟨gn_up h4 (by omega), by omega, by omega⟩
  · rw [q1]
    exact pgx_k h7 (fun c hc => pI_o _ _ _ _ _ (by omega)) (fun p _ => rfl)
  · rw [q_ne rfl, q11, q_ne rfl]; exact h8
theorem bst {X : Nat} {K : Int} {m m2 n : Nat} {v v6 : Int32} {s t : Sg} (hv : v.toInt = (n : Int)) (nX : n < X) (B : LfB X K s t) (T : TnR 18 X n s t) (n27 : ¬ t.1 1 (110 + 6 * n) = 27) (E : HdE X K m) (a0 : 0 ≤ v6.toInt) (a1 : v6.toInt + 160 ≤ 161 * (t.1 0 30).toInt) : RQ (bd (f_X3_behindStep_25_26_27 v s) (fun r8 s9 => f_X3_run_25_26_27_b12 m r8 v6 s9)) (if (t.1 1 ((110 + 6 * v).toNatClampNeg)) = 25 then ck (inr ((110 + 6 * v) + 1) 2880) (ck (inr v 80) (nmx (pI t 10 v.toNatClampNeg ((t.1 1 (((110 + 6 * v) + 1).toNatClampNeg)) - 1)) (fun s9 => f_X12_lives_b140 (f_X12_lives_b32 m2) v (110 + 6 * v) s9))) else f_X12_lives_b140 (f_X12_lives_b32 m2) v (110 + 6 * v) t) (fun _ s' _ t' => LfB X K s' t') := by
  have P := B.2.1
  have hX := P.1
  have R := P.2.1 n nX
  have kd : (s.1 45 n = 129 ↔ t.1 1 (110 + 6 * n) = 26) ∧ (s.1 45 n = 128 ↔ t.1 1 (110 + 6 * n) = 25) ∧ (s.1 45 n = 130 ↔ t.1 1 (110 + 6 * n) = 27) ∧ (s.1 45 n = 124 ↔ ¬ t.1 1 (110 + 6 * n) < 2400) := rw_kd R.1.1
  have ix := rw_x hv (by omega)
  have e1 : (1 : Int32).toInt = 1 := rfl
  have av : (v + 1).toInt = v.toInt + (1 : Int32).toInt := i_addx _ _ (by omega)
  have cont : ∀ (n' : Nat) (w : Int32) (s' t' : Sg), w.toInt = (n' : Int) → n' ≤ X → LfB X K s' t' → TnR 18 X n' s' t' → t'.1 0 30 = t.1 0 30 → RQ (f_X3_run_25_26_27_b12 m w v6 s') (bd (f_X12_behindEnds w t') (fun r t => f_X12_lives_b32 m2 r t)) (fun _ s' _ t' => LfB X K s' t') := fun n' w s' t' g1 g2 g3 g4 g5 => E BIG m2 n' w v6 s' t' g1 g2 g3 g4 (gd_new g3.2.1 g4 a0 (by rw [g5]; exact a1))
  rw [ix.2.1]
  by_cases b25 : t.1 1 (110 + 6 * n) = 25
  · rw [if_pos b25]
    refine rq_bC (bs_l hv (kd.2.1.mpr b25)) (fun r8 s9 k => rq_cM (fun _ => rq_cM (fun _ => rq_nM (fun t9 e9 => ?_))))
    rw [ix.2.2.1, cl_h hv] at e9
    obtain ⟨k1, k2⟩ := k
    have nu : s.1 47 n = t.1 1 (110 + 6 * n + 1) := rw_nu R.1.1 b25
    rw [nu] at k2
    rw [k1, k2, e9]
    unfold f_X12_lives_b140
    refine rq_cM (fun _ => ?_)
    rw [ix.2.1, if_pos (by rw [q_nc rfl, b25]; decide)]
    exact cont (n + 1) (v + 1) _ _ (by omega) (by omega) (lfb_k B (fun c hc => pI_o _ _ _ _ _ hc) (fun c hc => pI_o _ _ _ _ _ hc)) (tn_l T (R.1.2.2.2.2.1 b25)) (q_nc rfl)
  · rw [if_neg b25]
    unfold f_X12_lives_b140
    refine rq_cM (fun _ => ?_)
    rw [ix.2.1]
    by_cases lt : t.1 1 (110 + 6 * n) < 2400
    · rw [if_pos lt]
      refine rq_bC (bs_0 hv (fun z => kd.2.2.2.mp z lt) (fun z => b25 (kd.2.1.mp z)) (fun z => n27 (kd.2.2.1.mp z))) (fun r8 s9 k => ?_)
      obtain ⟨k1, k2⟩ := k
      rw [k1, k2]
      exact cont (n + 1) (v + 1) _ _ (by omega) (by omega) B (tn_f T b25) rfl
    · rw [if_neg lt]
      have w := kd.2.2.2.mpr lt
      have bk := blk_of R.1.1 lt
      obtain ⟨e, ⟨n1, n2⟩, n3, n4, -⟩ := pg_blk P nX bk
      have c50 := R.2 (Or.inl w)
      unfold f_X3_behindStep_25_26_27
      refine rq_cK (fun _ => ?_)
      rw [cl_h hv, if_pos w, bd_bd]
      refine rq_b2 (holds_r B.1.1.1 (by omega) v (110 + 6 * v) hv ix.1 R.1.1 R.1.2 w) (fun r2 s3 r13 t14 k => ?_)
      obtain ⟨k1, k2, k3⟩ := k
      rw [k1, k2, k3]
      refine rq_iK (fun c => rq_iM (fun _ => rq_cM (fun _ => ?_)) (fun d => absurd c d)) (fun c => rq_iM (fun d => absurd d c) (fun _ => ?_))
      · rw [ix.2.2.2, c50]
        exact cont (e + 1) (t.1 1 (110 + 6 * n + 4) + 1) _ _ (by rw [i_addx _ _ (by omega)]; omega) (by omega) B (tn_j P T bk b25 n3 n1 n4) rfl
      · exact cont (n + 1) (v + 1) _ _ (by omega) (by omega) B (tn_f T b25) rfl
theorem hd_l {X : Nat} {K : Int} {m : Nat} (hK : 9999 ≤ K ∧ K + 200000 ≤ 900000000) (E : HdE X K m) : HdL X K (m + 1) := fun m2 n v v6 s t hv hn B T ne a0 a1 => by
  cases m2 with
  | zero => intro a s' b t' _ e; cases e
  | succ m2 =>
  have P := B.2.1
  have hX := P.1
  have st := B.1.2.2.2
  have e1 : (1 : Int32).toInt = 1 := rfl
  have e300 : (300 : Int32).toInt = 300 := rfl
  have tl3 : s.1 4 3 = t.1 0 30 := B.1.2.1.2.1
  have a6 : (v6 + 1).toInt = v6.toInt + (1 : Int32).toInt := i_addx _ _ (by omega)
  unfold f_X3_run_25_26_27_b12 f_X12_lives_b32
  rw [hX.2.1]
  refine rq_iC (fun c => ?_) (fun _ => rq_iC (fun c => rq_iM (fun _ => rq_s B) (fun d => absurd c d)) (fun c => rq_iM (fun d => absurd d c) (fun _ => rq_cC (fun _ => ?_))))
  · exfalso
    have c := i_le c
    have e : (1000000 : Int32).toInt = 1000000 := rfl
    omega
  have nX : n < X := by
    have c := i_nle c
    omega
  have R := P.2.1 n nX
  have kd : (s.1 45 n = 129 ↔ t.1 1 (110 + 6 * n) = 26) ∧ (s.1 45 n = 128 ↔ t.1 1 (110 + 6 * n) = 25) ∧ (s.1 45 n = 130 ↔ t.1 1 (110 + 6 * n) = 27) ∧ (s.1 45 n = 124 ↔ ¬ t.1 1 (110 + 6 * n) < 2400) := rw_kd R.1.1
  have n26 := ne nX
  have ix := rw_x hv (by omega)
  rw [cl_h hv, if_neg (fun z => n26 (kd.1.mp z))]
  refine rq_iC (fun c => rq_iM (fun d => ?_) (fun d => ?_)) (fun c => rq_iM (fun d => ?_) (fun d => ?_))
  · exfalso
    rw [tl3, d] at c
    exact absurd c (by decide)
  · have d := i_ne d
    obtain ⟨B1, st1⟩ := lfb_s B (by omega)
    have T1 : TnR 18 X n (pI s 4 3 (s.1 4 3 + 1)) (pI t 0 30 (t.1 0 30 + 1)) := tn_c T (pI_o _ _ _ _ _ (by decide)) (pI_o _ _ _ _ _ (by decide)) (fun p _ => q_nc rfl)
    have G1 : GnR ((pI t 0 30 (t.1 0 30 + 1)).1 1) (K + 400 * (t.1 0 30).toInt) := B.1.2.2.1
    have m1 : (pI t 0 30 (t.1 0 30 + 1)).1 1 = t.1 1 := pI_o _ _ _ _ _ (by decide)
    have c45 : (pI s 4 3 (s.1 4 3 + 1)).1 45 = s.1 45 := pI_o _ _ _ _ _ (by decide)
    have c27 : (pI s 4 3 (s.1 4 3 + 1)).1 27 = s.1 27 := pI_o _ _ _ _ _ (by decide)
    refine rq_cM (fun _ => ?_)
    generalize pI s 4 3 (s.1 4 3 + 1) = s1 at B1 T1 c45 c27 ⊢
    generalize pI t 0 30 (t.1 0 30 + 1) = t1 at B1 st1 T1 G1 m1 ⊢
    rw [ix.2.1, show t1.1 1 (110 + 6 * n) = t.1 1 (110 + 6 * n) by rw [m1]]
    by_cases s27 : t.1 1 (110 + 6 * n) = 27
    · rw [if_pos s27]
      have w : s1.1 45 n = 130 := by rw [c45]; exact kd.2.2.1.mpr s27
      refine rq_pp (P := fun _ s' => s' = s1) (Q := fun _ t' => t' = t1) (pq_b (act_st hv w) (fun _ s7 k => pq_b (bs_s hv (by rw [k]; exact w)) (fun r8 s9 k2 => ?_))) (pq_s rfl) (fun _ s' _ t' k1 k2 => ?_)
      · rw [k2.2, k2.1, k]
        exact run_e (Int32.le_iff_toInt_le.mpr (by omega)) m
      · rw [k1, k2]
        exact B1
    · rw [if_neg s27]
      have P1 := B1.2.1
      have R1 := P1.2.1 n nX
      have A := rq_a (act_r B1.1.1.1 B1.1.2.1 B1.1.1.2 (K := K + 400 * (t.1 0 30).toInt) (by omega) G1 (show n < 60 by omega) v (110 + 6 * v) hv ix.1 R1.1.1 R1.1.2 (by rw [m1]; exact n26) (by rw [m1]; exact s27)) (fy_X3_act_25_26_27 v s1) (fq_X12_does (110 + 6 * v) t1)
      refine rq_b2 A (fun _ s7 r2 t3 k => ?_)
      obtain ⟨⟨⟨⟨k1, k2, k3⟩, k4⟩, k5⟩, k6, k7⟩ := k
      have M3 : ∀ p, (110 ≤ p ∨ PlP p ∨ p = 11) → t3.1 1 p = t1.1 1 p := k4.1
      have z30 : t3.1 0 30 = t1.1 0 30 := k4.2.2.1 30 (by decide) (by decide) (by decide)
      have c18 : s7.1 18 = s1.1 18 := funext fun j => fr_e k6 18 j 18 rfl rfl
      have cC : ∀ c, c = 27 ∨ (45 ≤ c ∧ c ≤ 50) → s7.1 c = s1.1 c := fun c hc => funext fun j => by
        rcases (show c = 27 ∨ c = 45 ∨ c = 46 ∨ c = 47 ∨ c = 48 ∨ c = 49 ∨ c = 50 by omega) with z | z | z | z | z | z | z <;> subst z
        · exact fr_e k6 27 j 27 rfl rfl
        · exact fr_e k6 45 j 45 rfl rfl
        · exact fr_e k6 46 j 46 rfl rfl
        · exact fr_e k6 47 j 47 rfl rfl
        · exact fr_e k6 48 j 48 rfl rfl
        · exact fr_e k6 49 j 49 rfl rfl
        · exact fr_e k6 50 j 50 rfl rfl
      have c48 : s7.1 4 8 = s1.1 4 8 := fr_e k6 4 8 268 rfl rfl
      have q11 : t3.1 11 0 = t1.1 11 0 := fr_e k7 11 0 300 rfl rfl
      have q14 : t3.1 11 4 = t1.1 11 4 := fr_e k7 11 4 304 rfl rfl
      have go : ∀ d : Int32, TlR d s7 t3 → RQ (bd (f_X3_behindStep_25_26_27 v s7) (fun r8 s9 => f_X3_run_25_26_27_b12 m r8 (v6 + 1) s9)) (f_X12_lives_b111 (f_X12_lives_b32 m2) v (110 + 6 * v) d (t1.1 11 0) 0 t3) (fun _ s' _ t' => LfB X K s' t') := fun d Td => by
        obtain ⟨u1, u2, u3, u4, u5, u6⟩ := Td
        unfold f_X12_lives_b111
        refine rq_cM (fun _ => rq_nM (fun s5 e5 => rq_cM (fun _ => ?_)))
        have e5' : s5 = pI t3 11 0 (s7.1 4 4) := by
          rw [e5, ← q11, u3]
          rfl
        have x1 : s5.1 1 = t3.1 1 := by rw [e5']; exact pI_o _ _ _ _ _ (by decide)
        have x0 : s5.1 0 = t3.1 0 := by rw [e5']; exact pI_o _ _ _ _ _ (by decide)
        have x10 : s5.1 10 = t3.1 10 := by rw [e5']; exact pI_o _ _ _ _ _ (by decide)
        have y : ∀ j, ¬ j = 0 → s5.1 11 j = t3.1 11 j := fun j hj => by rw [e5', pI_1, if_neg (fun z => hj z.2)]
        have y0 : s5.1 11 0 = s7.1 4 4 := by rw [e5', q_eq]
        have B5 : LfB X K s7 s5 := by
          refine ⟨⟨⟨ng_k k1 (fun _ _ => rfl) (fun k _ => by rw [x1]) (by rw [x0]), dye_k k2 rfl (by rw [x1])⟩, ⟨?_, ?_, ?_, ?_, ?_, ?_⟩, ?_⟩, ?_, ?_⟩
          · rw [x0]; exact u1
          · rw [x0]; exact u2
          · rw [y0, add0]
          · rw [y 1 (by decide)]; exact u4
          · rw [y 2 (by decide)]; exact u5
          · rw [y 3 (by decide)]; exact u6
          · rw [x1, x0, z30]
            exact ⟨gn_up k3 (by omega), by omega, by omega⟩
          · rw [x1]
            exact pgx_k P1 cC M3
          · rw [y 4 (by decide), c48, q14, show s7.1 4 1 = s1.1 4 1 from fr_e k6 4 1 261 rfl rfl]
            exact B1.2.2
        have T5 : TnR 18 X n s7 s5 := tn_c T1 c18 (x10.trans (k4.2.1 10 (by decide) (by decide) (by decide))) (fun p hp => by rw [x1]; exact M3 p (Or.inl hp))
        exact bst hv nX B5 T5 (by rw [x1, M3 _ (Or.inl (by omega)), m1]; exact s27) E (by omega) (by rw [x0, z30]; omega)
      rcases k5 with ⟨e, Td⟩ | ⟨e, Td⟩
      · rw [e, if_neg (show ¬ (1 : Int32) = 0 by decide)]
        exact go 0 Td
      · rw [e, if_pos (show (0 : Int32) = 0 from rfl)]
        exact go 1 Td
  · exact rq_s (lfb_x B)
  · exfalso
    have c := i_nlt c
    have d := i_ne d
    rw [tl3] at c
    omega
theorem lf_all {X : Nat} {K : Int} (hK : 9999 ≤ K ∧ K + 200000 ≤ 900000000) (m : Nat) : HdL X K m ∧ HdE X K m := by
  induction m with
  | zero =>
    constructor
    · intro m2 n v v6 s t _ _ _ _ _ _ _ a s' b t' e
      cases e
    · intro m1 m2 n v v6 s t _ _ _ _ _ a s' b t' e
      cases e
  | succ m ih =>
    have L := hd_l hK ih.2
    exact ⟨L, hd_e ih.2 L⟩
theorem bs_0z {v : Int32} {n : Nat} {s : Sg} (hv : v.toInt = (n : Int)) (w1 : ¬ s.1 45 n = 124) (w2 : ¬ s.1 45 n = 128) (w3 : ¬ s.1 45 n = 130) : PQ (f_X3_behindStep_25_53_27_5 v s) (fun r s' => r = v + 1 ∧ s' = s) := by
  unfold f_X3_behindStep_25_53_27_5
  refine pq_c (fun _ => ?_)
  rw [cl_h hv, if_neg w1, if_neg w2, if_neg w3]
  exact pq_s ⟨rfl, rfl⟩
theorem bs_lz {v : Int32} {n : Nat} {s : Sg} (hv : v.toInt = (n : Int)) (w : s.1 45 n = 128) : PQ (f_X3_behindStep_25_53_27_5 v s) (fun r s' => r = v + 1 ∧ s' = pI s 19 n (s.1 47 n)) := by
  unfold f_X3_behindStep_25_53_27_5
  refine pq_c (fun _ => ?_)
  rw [cl_h hv, if_neg (by rw [w]; decide), if_pos w]
  exact pq_n (fun s4 e4 => pq_s ⟨rfl, e4⟩)
theorem bs_sz {v : Int32} {n : Nat} {s : Sg} (hv : v.toInt = (n : Int)) (w : s.1 45 n = 130) : PQ (f_X3_behindStep_25_53_27_5 v s) (fun r s' => r = s.1 27 7 ∧ s' = s) := by
  unfold f_X3_behindStep_25_53_27_5
  refine pq_c (fun _ => ?_)
  rw [cl_h hv, if_neg (by rw [w]; decide), if_neg (by rw [w]; decide), if_pos w]
  exact pq_s ⟨rfl, rfl⟩
theorem act_stz {v : Int32} {n : Nat} {s : Sg} (hv : v.toInt = (n : Int)) (w : s.1 45 n = 130) : PQ (f_X3_act_25_53_27_5 v s) (fun _ s' => s' = s) := by
  unfold f_X3_act_25_53_27_5
  refine pq_c (fun _ => ?_)
  rw [cl_h hv, w]
  rw [if_neg (show ¬ (130 : Int32) = 116 by decide), if_neg (show ¬ (130 : Int32) = 117 by decide), if_neg (show ¬ (130 : Int32) = 118 by decide), if_neg (show ¬ (130 : Int32) = 119 by decide), if_neg (show ¬ (130 : Int32) = 120 by decide), if_neg (show ¬ (130 : Int32) = 121 by decide), if_neg (show ¬ (130 : Int32) = 122 by decide), if_neg (show ¬ (130 : Int32) = 123 by decide)]
  exact pq_s rfl
/-- the run is cut short -/
theorem lfb_xz {X : Nat} {K : Int} {s t : Sg} (h : LfBz X K s t) : LfBz X K (pI s 5 8 1) (pI t 11 4 1) := by
  obtain ⟨⟨⟨h1, h2⟩, ⟨t1, t2, t3, t4, t5, t6⟩, h4, h5, h6⟩, h7, h8⟩ := h
  have q1 : (pI t 11 4 1).1 1 = t.1 1 := pI_o _ _ _ _ _ (by decide)
  have q0 : (pI t 11 4 1).1 0 = t.1 0 := pI_o _ _ _ _ _ (by decide)
  refine ⟨⟨⟨ng_k h1 (fun c hc => pI_o _ _ _ _ _ (by omega)) (fun k _ => by rw [q1]) (by rw [q0]), dye_kz h2 (q_nc rfl) (by rw [q1])⟩, ⟨?_, ?_, ?_, ?_, ?_, ?_⟩, ?_⟩, ?_, ?_⟩
  · rw [q_ne rfl, q0]; exact t1
  · rw [q_ne rfl, q0]; exact t2
  · rw [q_ne rfl, q_ne rfl]; exact t3
  · rw [q_ne rfl, q_ne rfl]; exact t4
  · rw [q_ne rfl, q_ne rfl]; exact t5
  · rw [q_ne rfl, q_ne rfl]; exact t6
  · rw [q0, q1]; exact ⟨h4, h5, h6⟩
  · rw [q1]
    exact pgx_k h7 (fun c hc => pI_o _ _ _ _ _ (by omega)) (fun p _ => rfl)
  · rw [q_eq, q_eq, q_ne rfl]
    exact ⟨rfl, h8.2⟩
/-- a step is counted -/
theorem lfb_sz {X : Nat} {K : Int} {s t : Sg} (h : LfBz X K s t) (lt : (t.1 0 30).toInt < 300) : LfBz X K (pI s 5 3 (s.1 5 3 + 1)) (pI t 0 30 (t.1 0 30 + 1)) ∧ ((pI t 0 30 (t.1 0 30 + 1)).1 0 30).toInt = (t.1 0 30).toInt + 1 := by
  obtain ⟨⟨⟨h1, h2⟩, ⟨t1, t2, t3, t4, t5, t6⟩, h4, h5, h6⟩, h7, h8⟩ := h
  have e1 : (1 : Int32).toInt = 1 := rfl
  have ad : (t.1 0 30 + 1).toInt = (t.1 0 30).toInt + (1 : Int32).toInt := i_addx _ _ (by omega)
  have q1 : ∀ x, (pI t 0 30 x).1 1 = t.1 1 := fun x => pI_o _ _ _ _ _ (by decide)
  have q11 : ∀ x, (pI t 0 30 x).1 11 = t.1 11 := fun x => pI_o _ _ _ _ _ (by decide)
  refine ⟨⟨⟨⟨ng_k h1 (fun c hc => pI_o _ _ _ _ _ (by omega)) (fun k _ => by rw [q1]) (q_ne rfl), dye_kz h2 (q_nc rfl) (by rw [q1])⟩, ⟨?_, ?_, ?_, ?_, ?_, ?_⟩, ?_⟩, ?_, ?_⟩, by rw [q_eq, ad, e1]⟩
  · rw [q_ne rfl, q_ne rfl]; exact t1
  · rw [q_eq, q_eq, t2]
  · rw [q_ne rfl, q11]; exact t3
  · rw [q_ne rfl, q11]; exact t4
  · rw [q_ne rfl, q11]; exact t5
  · rw [q_ne rfl, q11]; exact t6
  · rw [q_eq, q1]
    exact ⟨gn_up h4 (by omega), by omega, by omega⟩
  · rw [q1]
    exact pgx_k h7 (fun c hc => pI_o _ _ _ _ _ (by omega)) (fun p _ => rfl)
  · rw [q_ne rfl, q11, q_ne rfl]; exact h8
theorem bstz {X : Nat} {K : Int} {m m2 n : Nat} {v v6 : Int32} {s t : Sg} (hv : v.toInt = (n : Int)) (nX : n < X) (B : LfBz X K s t) (T : TnR 19 X n s t) (n27 : ¬ t.1 1 (110 + 6 * n) = 27) (E : HdEz X K m) (a0 : 0 ≤ v6.toInt) (a1 : v6.toInt + 160 ≤ 161 * (t.1 0 30).toInt) : RQ (bd (f_X3_behindStep_25_53_27_5 v s) (fun r8 s9 => f_X3_run_25_53_27_5_b12 m r8 v6 s9)) (if (t.1 1 ((110 + 6 * v).toNatClampNeg)) = 25 then ck (inr ((110 + 6 * v) + 1) 2880) (ck (inr v 80) (nmx (pI t 10 v.toNatClampNeg ((t.1 1 (((110 + 6 * v) + 1).toNatClampNeg)) - 1)) (fun s9 => f_X12_lives_b140 (f_X12_lives_b32 m2) v (110 + 6 * v) s9))) else f_X12_lives_b140 (f_X12_lives_b32 m2) v (110 + 6 * v) t) (fun _ s' _ t' => LfBz X K s' t') := by
  have P := B.2.1
  have hX := P.1
  have R := P.2.1 n nX
  have kd : (s.1 45 n = 129 ↔ t.1 1 (110 + 6 * n) = 26) ∧ (s.1 45 n = 128 ↔ t.1 1 (110 + 6 * n) = 25) ∧ (s.1 45 n = 130 ↔ t.1 1 (110 + 6 * n) = 27) ∧ (s.1 45 n = 124 ↔ ¬ t.1 1 (110 + 6 * n) < 2400) := rw_kd R.1.1
  have ix := rw_x hv (by omega)
  have e1 : (1 : Int32).toInt = 1 := rfl
  have av : (v + 1).toInt = v.toInt + (1 : Int32).toInt := i_addx _ _ (by omega)
  have cont : ∀ (n' : Nat) (w : Int32) (s' t' : Sg), w.toInt = (n' : Int) → n' ≤ X → LfBz X K s' t' → TnR 19 X n' s' t' → t'.1 0 30 = t.1 0 30 → RQ (f_X3_run_25_53_27_5_b12 m w v6 s') (bd (f_X12_behindEnds w t') (fun r t => f_X12_lives_b32 m2 r t)) (fun _ s' _ t' => LfBz X K s' t') := fun n' w s' t' g1 g2 g3 g4 g5 => E BIG m2 n' w v6 s' t' g1 g2 g3 g4 (gd_new g3.2.1 g4 a0 (by rw [g5]; exact a1))
  rw [ix.2.1]
  by_cases b25 : t.1 1 (110 + 6 * n) = 25
  · rw [if_pos b25]
    refine rq_bC (bs_lz hv (kd.2.1.mpr b25)) (fun r8 s9 k => rq_cM (fun _ => rq_cM (fun _ => rq_nM (fun t9 e9 => ?_))))
    rw [ix.2.2.1, cl_h hv] at e9
    obtain ⟨k1, k2⟩ := k
    have nu : s.1 47 n = t.1 1 (110 + 6 * n + 1) := rw_nu R.1.1 b25
    rw [nu] at k2
    rw [k1, k2, e9]
    unfold f_X12_lives_b140
    refine rq_cM (fun _ => ?_)
    rw [ix.2.1, if_pos (by rw [q_nc rfl, b25]; decide)]
    exact cont (n + 1) (v + 1) _ _ (by omega) (by omega) (lfb_kz B (fun c hc => pI_o _ _ _ _ _ hc) (fun c hc => pI_o _ _ _ _ _ hc)) (tn_l T (R.1.2.2.2.2.1 b25)) (q_nc rfl)
  · rw [if_neg b25]
    unfold f_X12_lives_b140
    refine rq_cM (fun _ => ?_)
    rw [ix.2.1]
    by_cases lt : t.1 1 (110 + 6 * n) < 2400
    · rw [if_pos lt]
      refine rq_bC (bs_0z hv (fun z => kd.2.2.2.mp z lt) (fun z => b25 (kd.2.1.mp z)) (fun z => n27 (kd.2.2.1.mp z))) (fun r8 s9 k => ?_)
      obtain ⟨k1, k2⟩ := k
      rw [k1, k2]
      exact cont (n + 1) (v + 1) _ _ (by omega) (by omega) B (tn_f T b25) rfl
    · rw [if_neg lt]
      have w := kd.2.2.2.mpr lt
      have bk := blk_of R.1.1 lt
      obtain ⟨e, ⟨n1, n2⟩, n3, n4, -⟩ := pg_blk P nX bk
      have c50 := R.2 (Or.inl w)
      unfold f_X3_behindStep_25_53_27_5
      refine rq_cK (fun _ => ?_)
      rw [cl_h hv, if_pos w, bd_bd]
      refine rq_b2 (holds_rz B.1.1.1 (by omega) v (110 + 6 * v) hv ix.1 R.1.1 R.1.2 w) (fun r2 s3 r13 t14 k => ?_)
      obtain ⟨k1, k2, k3⟩ := k
      rw [k1, k2, k3]
      refine rq_iK (fun c => rq_iM (fun _ => rq_cM (fun _ => ?_)) (fun d => absurd c d)) (fun c => rq_iM (fun d => absurd d c) (fun _ => ?_))
      · rw [ix.2.2.2, c50]
        exact cont (e + 1) (t.1 1 (110 + 6 * n + 4) + 1) _ _ (by rw [i_addx _ _ (by omega)]; omega) (by omega) B (tn_j P T bk b25 n3 n1 n4) rfl
      · exact cont (n + 1) (v + 1) _ _ (by omega) (by omega) B (tn_f T b25) rfl
theorem hd_lz {X : Nat} {K : Int} {m : Nat} (hK : 9999 ≤ K ∧ K + 200000 ≤ 900000000) (E : HdEz X K m) : HdLz X K (m + 1) := fun m2 n v v6 s t hv hn B T ne a0 a1 => by
  cases m2 with
  | zero => intro a s' b t' _ e; cases e
  | succ m2 =>
  have P := B.2.1
  have hX := P.1
  have st := B.1.2.2.2
  have e1 : (1 : Int32).toInt = 1 := rfl
  have e300 : (300 : Int32).toInt = 300 := rfl
  have tl3 : s.1 5 3 = t.1 0 30 := B.1.2.1.2.1
  have a6 : (v6 + 1).toInt = v6.toInt + (1 : Int32).toInt := i_addx _ _ (by omega)
  unfold f_X3_run_25_53_27_5_b12 f_X12_lives_b32
  rw [hX.2.1]
  refine rq_iC (fun c => ?_) (fun _ => rq_iC (fun c => rq_iM (fun _ => rq_s B) (fun d => absurd c d)) (fun c => rq_iM (fun d => absurd d c) (fun _ => rq_cC (fun _ => ?_))))
  · exfalso
    have c := i_le c
    have e : (1000000 : Int32).toInt = 1000000 := rfl
    omega
  have nX : n < X := by
    have c := i_nle c
    omega
  have R := P.2.1 n nX
  have kd : (s.1 45 n = 129 ↔ t.1 1 (110 + 6 * n) = 26) ∧ (s.1 45 n = 128 ↔ t.1 1 (110 + 6 * n) = 25) ∧ (s.1 45 n = 130 ↔ t.1 1 (110 + 6 * n) = 27) ∧ (s.1 45 n = 124 ↔ ¬ t.1 1 (110 + 6 * n) < 2400) := rw_kd R.1.1
  have n26 := ne nX
  have ix := rw_x hv (by omega)
  rw [cl_h hv, if_neg (fun z => n26 (kd.1.mp z))]
  refine rq_iC (fun c => rq_iM (fun d => ?_) (fun d => ?_)) (fun c => rq_iM (fun d => ?_) (fun d => ?_))
  · exfalso
    rw [tl3, d] at c
    exact absurd c (by decide)
  · have d := i_ne d
    obtain ⟨B1, st1⟩ := lfb_sz B (by omega)
    have T1 : TnR 19 X n (pI s 5 3 (s.1 5 3 + 1)) (pI t 0 30 (t.1 0 30 + 1)) := tn_c T (pI_o _ _ _ _ _ (by decide)) (pI_o _ _ _ _ _ (by decide)) (fun p _ => q_nc rfl)
    have G1 : GnR ((pI t 0 30 (t.1 0 30 + 1)).1 1) (K + 400 * (t.1 0 30).toInt) := B.1.2.2.1
    have m1 : (pI t 0 30 (t.1 0 30 + 1)).1 1 = t.1 1 := pI_o _ _ _ _ _ (by decide)
    have c45 : (pI s 5 3 (s.1 5 3 + 1)).1 45 = s.1 45 := pI_o _ _ _ _ _ (by decide)
    have c27 : (pI s 5 3 (s.1 5 3 + 1)).1 27 = s.1 27 := pI_o _ _ _ _ _ (by decide)
    refine rq_cM (fun _ => ?_)
    generalize pI s 5 3 (s.1 5 3 + 1) = s1 at B1 T1 c45 c27 ⊢
    generalize pI t 0 30 (t.1 0 30 + 1) = t1 at B1 st1 T1 G1 m1 ⊢
    rw [ix.2.1, show t1.1 1 (110 + 6 * n) = t.1 1 (110 + 6 * n) by rw [m1]]
    by_cases s27 : t.1 1 (110 + 6 * n) = 27
    · rw [if_pos s27]
      have w : s1.1 45 n = 130 := by rw [c45]; exact kd.2.2.1.mpr s27
      refine rq_pp (P := fun _ s' => s' = s1) (Q := fun _ t' => t' = t1) (pq_b (act_stz hv w) (fun _ s7 k => pq_b (bs_sz hv (by rw [k]; exact w)) (fun r8 s9 k2 => ?_))) (pq_s rfl) (fun _ s' _ t' k1 k2 => ?_)
      · rw [k2.2, k2.1, k]
        exact run_ez (Int32.le_iff_toInt_le.mpr (by omega)) m
      · rw [k1, k2]
        exact B1
    · rw [if_neg s27]
      have P1 := B1.2.1
      have R1 := P1.2.1 n nX
      have A := rq_a (act_rz B1.1.1.1 B1.1.2.1 B1.1.1.2 (K := K + 400 * (t.1 0 30).toInt) (by omega) G1 (show n < 60 by omega) v (110 + 6 * v) hv ix.1 R1.1.1 R1.1.2 (by rw [m1]; exact n26) (by rw [m1]; exact s27)) (fy_X3_act_25_53_27_5 v s1) (fq_X12_does (110 + 6 * v) t1)
      refine rq_b2 A (fun _ s7 r2 t3 k => ?_)
      obtain ⟨⟨⟨⟨k1, k2, k3⟩, k4⟩, k5⟩, k6, k7⟩ := k
      have M3 : ∀ p, (110 ≤ p ∨ PlP p ∨ p = 11) → t3.1 1 p = t1.1 1 p := k4.1
      have z30 : t3.1 0 30 = t1.1 0 30 := k4.2.2.1 30 (by decide) (by decide) (by decide)
      have c18 : s7.1 19 = s1.1 19 := funext fun j => fr_e k6 19 j 19 rfl rfl
      have cC : ∀ c, c = 27 ∨ (45 ≤ c ∧ c ≤ 50) → s7.1 c = s1.1 c := fun c hc => funext fun j => by
        rcases (show c = 27 ∨ c = 45 ∨ c = 46 ∨ c = 47 ∨ c = 48 ∨ c = 49 ∨ c = 50 by omega) with z | z | z | z | z | z | z <;> subst z
        · exact fr_e k6 27 j 27 rfl rfl
        · exact fr_e k6 45 j 45 rfl rfl
        · exact fr_e k6 46 j 46 rfl rfl
        · exact fr_e k6 47 j 47 rfl rfl
        · exact fr_e k6 48 j 48 rfl rfl
        · exact fr_e k6 49 j 49 rfl rfl
        · exact fr_e k6 50 j 50 rfl rfl
      have c48 : s7.1 5 8 = s1.1 5 8 := fr_e k6 5 8 278 rfl rfl
      have q11 : t3.1 11 0 = t1.1 11 0 := fr_e k7 11 0 300 rfl rfl
      have q14 : t3.1 11 4 = t1.1 11 4 := fr_e k7 11 4 304 rfl rfl
      have go : ∀ d : Int32, TlRz d s7 t3 → RQ (bd (f_X3_behindStep_25_53_27_5 v s7) (fun r8 s9 => f_X3_run_25_53_27_5_b12 m r8 (v6 + 1) s9)) (f_X12_lives_b111 (f_X12_lives_b32 m2) v (110 + 6 * v) d (t1.1 11 0) 0 t3) (fun _ s' _ t' => LfBz X K s' t') := fun d Td => by
        obtain ⟨u1, u2, u3, u4, u5, u6⟩ := Td
        unfold f_X12_lives_b111
        refine rq_cM (fun _ => rq_nM (fun s5 e5 => rq_cM (fun _ => ?_)))
        have e5' : s5 = pI t3 11 0 (s7.1 5 4) := by
          rw [e5, ← q11, u3]
          rfl
        have x1 : s5.1 1 = t3.1 1 := by rw [e5']; exact pI_o _ _ _ _ _ (by decide)
        have x0 : s5.1 0 = t3.1 0 := by rw [e5']; exact pI_o _ _ _ _ _ (by decide)
        have x10 : s5.1 10 = t3.1 10 := by rw [e5']; exact pI_o _ _ _ _ _ (by decide)
        have y : ∀ j, ¬ j = 0 → s5.1 11 j = t3.1 11 j := fun j hj => by rw [e5', pI_1, if_neg (fun z => hj z.2)]
        have y0 : s5.1 11 0 = s7.1 5 4 := by rw [e5', q_eq]
        have B5 : LfBz X K s7 s5 := by
          refine ⟨⟨⟨ng_k k1 (fun _ _ => rfl) (fun k _ => by rw [x1]) (by rw [x0]), dye_kz k2 rfl (by rw [x1])⟩, ⟨?_, ?_, ?_, ?_, ?_, ?_⟩, ?_⟩, ?_, ?_⟩
          · rw [x0]; exact u1
          · rw [x0]; exact u2
          · rw [y0, add0]
          · rw [y 1 (by decide)]; exact u4
          · rw [y 2 (by decide)]; exact u5
          · rw [y 3 (by decide)]; exact u6
          · rw [x1, x0, z30]
            exact ⟨gn_up k3 (by omega), by omega, by omega⟩
          · rw [x1]
            exact pgx_k P1 cC M3
          · rw [y 4 (by decide), c48, q14, show s7.1 5 1 = s1.1 5 1 from fr_e k6 5 1 271 rfl rfl]
            exact B1.2.2
        have T5 : TnR 19 X n s7 s5 := tn_c T1 c18 (x10.trans (k4.2.1 10 (by decide) (by decide) (by decide))) (fun p hp => by rw [x1]; exact M3 p (Or.inl hp))
        exact bstz hv nX B5 T5 (by rw [x1, M3 _ (Or.inl (by omega)), m1]; exact s27) E (by omega) (by rw [x0, z30]; omega)
      rcases k5 with ⟨e, Td⟩ | ⟨e, Td⟩
      · rw [e, if_neg (show ¬ (1 : Int32) = 0 by decide)]
        exact go 0 Td
      · rw [e, if_pos (show (0 : Int32) = 0 from rfl)]
        exact go 1 Td
  · exact rq_s (lfb_xz B)
  · exfalso
    have c := i_nlt c
    have d := i_ne d
    rw [tl3] at c
    omega
theorem lf_allz {X : Nat} {K : Int} (hK : 9999 ≤ K ∧ K + 200000 ≤ 900000000) (m : Nat) : HdLz X K m ∧ HdEz X K m := by
  induction m with
  | zero =>
    constructor
    · intro m2 n v v6 s t _ _ _ _ _ _ _ a s' b t' e
      cases e
    · intro m1 m2 n v v6 s t _ _ _ _ _ a s' b t' e
      cases e
  | succ m ih =>
    have L := hd_lz hK ih.2
    exact ⟨L, hd_ez ih.2 L⟩
/-! live and lived on both sides -/
theorem begin_c (a : Int32) (s : Sg) : PQ (f_X3_begin a s) (fun _ s' => (∀ c, ¬ c = 4 → s'.1 c = s.1 c) ∧ (s'.1 4 1 = 1 ∧ s'.1 4 2 = a ∧ s'.1 4 3 = 0 ∧ s'.1 4 4 = 0 ∧ s'.1 4 5 = 0 ∧ s'.1 4 6 = 0 ∧ s'.1 4 7 = 0 ∧ s'.1 4 8 = 0)) := by
  unfold f_X3_begin
  refine pq_n (fun s1 e1 => pq_n (fun s2 e2 => pq_s ?_))
  subst e1
  subst e2
  refine ⟨fun c hc => ?_, ?_, ?_, ?_, ?_, ?_, ?_, ?_, q_eq⟩
  · rw [pI_o _ _ _ _ _ hc, pI_o _ _ _ _ _ hc, pI_o _ _ _ _ _ hc, pI_o _ _ _ _ _ hc, pI_o _ _ _ _ _ hc, pI_o _ _ _ _ _ hc, pI_o _ _ _ _ _ hc, pI_o _ _ _ _ _ hc]
  · rw [q_ne rfl, q_ne rfl, q_ne rfl, q_ne rfl, q_ne rfl, q_ne rfl, q_ne rfl, q_eq]
  · rw [q_ne rfl, q_ne rfl, q_ne rfl, q_ne rfl, q_ne rfl, q_ne rfl, q_eq]
  · rw [q_ne rfl, q_ne rfl, q_ne rfl, q_ne rfl, q_ne rfl, q_eq]
  · rw [q_ne rfl, q_ne rfl, q_ne rfl, q_ne rfl, q_eq]
  · rw [q_ne rfl, q_ne rfl, q_ne rfl, q_eq]
  · rw [q_ne rfl, q_ne rfl, q_eq]
  · rw [q_ne rfl, q_eq]
theorem begin_cz (a : Int32) (s : Sg) : PQ (f_X3_begin_5 a s) (fun _ s' => (∀ c, ¬ c = 5 → s'.1 c = s.1 c) ∧ (s'.1 5 1 = 1 ∧ s'.1 5 2 = a ∧ s'.1 5 3 = 0 ∧ s'.1 5 4 = 0 ∧ s'.1 5 5 = 0 ∧ s'.1 5 6 = 0 ∧ s'.1 5 7 = 0 ∧ s'.1 5 8 = 0)) := by
  unfold f_X3_begin_5
  refine pq_n (fun s1 e1 => pq_n (fun s2 e2 => pq_s ?_))
  subst e1
  subst e2
  refine ⟨fun c hc => ?_, ?_, ?_, ?_, ?_, ?_, ?_, ?_, q_eq⟩
  · rw [pI_o _ _ _ _ _ hc, pI_o _ _ _ _ _ hc, pI_o _ _ _ _ _ hc, pI_o _ _ _ _ _ hc, pI_o _ _ _ _ _ hc, pI_o _ _ _ _ _ hc, pI_o _ _ _ _ _ hc, pI_o _ _ _ _ _ hc]
  · rw [q_ne rfl, q_ne rfl, q_ne rfl, q_ne rfl, q_ne rfl, q_ne rfl, q_ne rfl, q_eq]
  · rw [q_ne rfl, q_ne rfl, q_ne rfl, q_ne rfl, q_ne rfl, q_ne rfl, q_eq]
  · rw [q_ne rfl, q_ne rfl, q_ne rfl, q_ne rfl, q_ne rfl, q_eq]
  · rw [q_ne rfl, q_ne rfl, q_ne rfl, q_ne rfl, q_eq]
  · rw [q_ne rfl, q_ne rfl, q_ne rfl, q_eq]
  · rw [q_ne rfl, q_ne rfl, q_eq]
  · rw [q_ne rfl, q_eq]
theorem lv_12 {α : Type} {oC : Option (α × Sg)} {R : α → Sg → Unit → Sg → Prop} {t0 : Sg} (H : ∀ t, (∀ c, ¬ c = 11 → t.1 c = t0.1 c) → (∀ k, k < 5 → t.1 11 k = 0) → RQ oC (f_X12_lives_b32 BIG 0 t) R) (m : Nat) : ∀ (i : Nat) (v : Int32) (t : Sg), v.toInt = (i : Int) → i ≤ 5 → (∀ c, ¬ c = 11 → t.1 c = t0.1 c) → (∀ k, k < i → t.1 11 k = 0) → RQ oC (f_X12_lives_b12 m v t) R := by
  induction m with
  | zero => intro i v t _ _ _ _ a s b t' _ e; cases e
  | succ m ih =>
    intro i v t hv hi h1 h2
    have e1 : (1 : Int32).toInt = 1 := rfl
    have e5 : (5 : Int32).toInt = 5 := rfl
    unfold f_X12_lives_b12
    refine rq_iM (fun c => H t h1 (fun k hk => h2 k ?_)) (fun c => rq_cM (fun _ => ?_))
    · have c := i_le c
      omega
    · have c := i_nle c
      rw [cl_h hv]
      refine ih (i + 1) (v + 1) _ (by rw [i_addx _ _ (by omega)]; omega) (by omega) (fun c hc => ?_) (fun k hk => ?_)
      · rw [pI_o _ _ _ _ _ hc]; exact h1 c hc
      · rw [pI_1]
        by_cases z : k = i
        · rw [if_pos ⟨rfl, z⟩]
        · rw [if_neg (fun y => z y.2)]
          exact h2 k (by omega)
/-- life, begun and run, on both sides -/
theorem run_r {s t : Sg} {X : Nat} {K : Int} (hK : 9999 ≤ K ∧ K + 200000 ≤ 900000000) (H : NowG 0 s t) (D : DyE s t) (G : GnR (t.1 1) K) (P : PgX X s (t.1 1)) (a : Int32) : RQ (f_X3_run_25_26_27 a s) (f_X12_lives a t) (fun _ s' _ t' => LfB X K s' t') := by
  unfold f_X3_run_25_26_27 f_X12_lives
  refine rq_bC (begin_c a s) (fun _ s2 k => ?_)
  obtain ⟨k0, k1, k2, k3, k4, k5, k6, k7, k8⟩ := k
  have q29 : (pI (pI t 0 29 a) 0 30 0).1 0 29 = a := by rw [q_ne rfl, q_eq]
  have q30 : (pI (pI t 0 29 a) 0 30 0).1 0 30 = 0 := q_eq
  have q24 : (pI (pI t 0 29 a) 0 30 0).1 0 24 = t.1 0 24 := by rw [q_ne rfl, q_ne rfl]
  have q1 : (pI (pI t 0 29 a) 0 30 0).1 1 = t.1 1 := by rw [pI_o _ _ _ _ _ (by decide), pI_o _ _ _ _ _ (by decide)]
  have e0 : (0 : Int32).toInt = 0 := rfl
  have P2 : PgX X s2 (t.1 1) := pgx_k P (fun c hc => k0 c (by omega)) (fun _ _ => rfl)
  refine lv_12 (t0 := pI (pI t 0 29 a) 0 30 0) (fun t2 h1 h2 => ?_) BIG 0 0 _ rfl (by decide) (fun _ _ => rfl) (fun k hk => absurd hk (Nat.not_lt_zero _))
  have m1 : t2.1 1 = t.1 1 := (h1 1 (by decide)).trans q1
  have m0 : t2.1 0 = (pI (pI t 0 29 a) 0 30 0).1 0 := h1 0 (by decide)
  refine (lf_all hK BIG).1 BIG 0 0 0 s2 t2 rfl (Nat.zero_le _) ⟨⟨⟨ng_k H (fun c hc => k0 c (by omega)) (fun k _ => by rw [m1]) (by rw [m0, q24]), dye_k D (by rw [k0 26 (by decide)]) (by rw [m1])⟩, ⟨?_, ?_, ?_, ?_, ?_, ?_⟩, ?_⟩, ?_, ?_⟩ (fun p _ hp => absurd hp (Nat.not_lt_zero _)) (fun nX e26 => ?_) (by rw [e0]; decide) ?_
  · rw [m0, q29]; exact k2
  · rw [m0, q30]; exact k3
  · rw [h2 0 (by decide), k4]; rfl
  · rw [h2 1 (by decide)]; exact k5
  · rw [h2 2 (by decide)]; exact k6
  · rw [h2 3 (by decide)]; exact k7
  · rw [m1, m0, q30, e0]
    exact ⟨gn_up G (by omega), by decide, by decide⟩
  · rw [m1]; exact P2
  · rw [k8, h2 4 (by decide)]
    exact ⟨rfl, k1⟩
  · rw [m1] at e26
    obtain ⟨p, p1, -⟩ := pg_end P2 nX e26
    exact absurd p1 (Nat.not_lt_zero _)
  · rw [m0, q30, e0]
    decide
/-- life, begun and run, on both sides -/
theorem run_rz {s t : Sg} {X : Nat} {K : Int} (hK : 9999 ≤ K ∧ K + 200000 ≤ 900000000) (H : NowG 27 s t) (D : DyEz s t) (G : GnR (t.1 1) K) (P : PgX X s (t.1 1)) (a : Int32) : RQ (f_X3_run_25_53_27_5 a s) (f_X12_lives a t) (fun _ s' _ t' => LfBz X K s' t') := by
  unfold f_X3_run_25_53_27_5 f_X12_lives
  refine rq_bC (begin_cz a s) (fun _ s2 k => ?_)
  obtain ⟨k0, k1, k2, k3, k4, k5, k6, k7, k8⟩ := k
  have q29 : (pI (pI t 0 29 a) 0 30 0).1 0 29 = a := by rw [q_ne rfl, q_eq]
  have q30 : (pI (pI t 0 29 a) 0 30 0).1 0 30 = 0 := q_eq
  have q24 : (pI (pI t 0 29 a) 0 30 0).1 0 24 = t.1 0 24 := by rw [q_ne rfl, q_ne rfl]
  have q1 : (pI (pI t 0 29 a) 0 30 0).1 1 = t.1 1 := by rw [pI_o _ _ _ _ _ (by decide), pI_o _ _ _ _ _ (by decide)]
  have e0 : (0 : Int32).toInt = 0 := rfl
  have P2 : PgX X s2 (t.1 1) := pgx_k P (fun c hc => k0 c (by omega)) (fun _ _ => rfl)
  refine lv_12 (t0 := pI (pI t 0 29 a) 0 30 0) (fun t2 h1 h2 => ?_) BIG 0 0 _ rfl (by decide) (fun _ _ => rfl) (fun k hk => absurd hk (Nat.not_lt_zero _))
  have m1 : t2.1 1 = t.1 1 := (h1 1 (by decide)).trans q1
  have m0 : t2.1 0 = (pI (pI t 0 29 a) 0 30 0).1 0 := h1 0 (by decide)
  refine (lf_allz hK BIG).1 BIG 0 0 0 s2 t2 rfl (Nat.zero_le _) ⟨⟨⟨ng_k H (fun c hc => k0 c (by omega)) (fun k _ => by rw [m1]) (by rw [m0, q24]), dye_kz D (by rw [k0 53 (by decide)]) (by rw [m1])⟩, ⟨?_, ?_, ?_, ?_, ?_, ?_⟩, ?_⟩, ?_, ?_⟩ (fun p _ hp => absurd hp (Nat.not_lt_zero _)) (fun nX e26 => ?_) (by rw [e0]; decide) ?_
  · rw [m0, q29]; exact k2
  · rw [m0, q30]; exact k3
  · rw [h2 0 (by decide), k4]; rfl
  · rw [h2 1 (by decide)]; exact k5
  · rw [h2 2 (by decide)]; exact k6
  · rw [h2 3 (by decide)]; exact k7
  · rw [m1, m0, q30, e0]
    exact ⟨gn_up G (by omega), by decide, by decide⟩
  · rw [m1]; exact P2
  · rw [k8, h2 4 (by decide)]
    exact ⟨rfl, k1⟩
  · rw [m1] at e26
    obtain ⟨p, p1, -⟩ := pg_end P2 nX e26
    exact absurd p1 (Nat.not_lt_zero _)
  · rw [m0, q30, e0]
    decide
theorem lv_43 {t0 : Sg} (m : Nat) : ∀ (i : Nat) (v : Int32) (t : Sg), v.toInt = (i : Int) → i ≤ 5 → (∀ c, ¬ c = 12 → t.1 c = t0.1 c) → (∀ k, k < i → t.1 12 k = t0.1 11 k) → PQ (f_X12_live_b43 m v t) (fun r t' => r = t0.1 0 30 ∧ (t'.1 0 34 = 1 ∧ t'.1 0 2 = 0 ∧ ∀ k, k < 5 → t'.1 12 k = t0.1 11 k) ∧ (∀ c, ¬ c = 0 → ¬ c = 12 → t'.1 c = t0.1 c) ∧ ∀ k, ¬ k = 34 → ¬ k = 2 → t'.1 0 k = t0.1 0 k) := by
  induction m with
  | zero => intro i v t _ _ _ _ r t' e; cases e
  | succ m ih =>
    intro i v t hv hi h1 h2
    have e1 : (1 : Int32).toInt = 1 := rfl
    have e5 : (5 : Int32).toInt = 5 := rfl
    unfold f_X12_live_b43
    refine pq_if (fun c => ?_) (fun c => pq_c (fun _ => pq_n (fun t2 e2 => ?_)))
    · have c := i_le c
      have q : PQ (some ((pI t 0 34 1).1 0 30, pI (pI t 0 34 1) 0 2 0)) (fun r t' => r = t0.1 0 30 ∧ (t'.1 0 34 = 1 ∧ t'.1 0 2 = 0 ∧ ∀ k, k < 5 → t'.1 12 k = t0.1 11 k) ∧ (∀ c, ¬ c = 0 → ¬ c = 12 → t'.1 c = t0.1 c) ∧ ∀ k, ¬ k = 34 → ¬ k = 2 → t'.1 0 k = t0.1 0 k) := by
        refine pq_s ⟨?_, ⟨?_, q_eq, fun k hk => ?_⟩, fun c c1 c2 => ?_, fun k k1 k2 => ?_⟩
        · rw [q_ne rfl, h1 0 (by decide)]
        · rw [q_ne rfl, q_eq]
        · rw [q_nc rfl, q_nc rfl]; exact h2 k (by omega)
        · rw [pI_o _ _ _ _ _ c1, pI_o _ _ _ _ _ c1]; exact h1 c c2
        · rw [pI_1, if_neg (fun z => k2 z.2), pI_1, if_neg (fun z => k1 z.2), h1 0 (by decide)]
      exact q
    · have c := i_nle c
      rw [cl_h hv] at e2
      refine ih (i + 1) (v + 1) t2 (by rw [i_addx _ _ (by omega)]; omega) (by omega) (fun c hc => ?_) (fun k hk => ?_)
      · rw [e2, pI_o _ _ _ _ _ hc]; exact h1 c hc
      · rw [e2, pI_1]
        by_cases z : k = i
        · rw [if_pos ⟨rfl, z⟩, z, h1 11 (by decide)]
        · rw [if_neg (fun y => z y.2)]
          exact h2 k (by omega)
/-- what live leaves of the tallies on both sides -/
def LvT (s t s' t' : Sg) : Prop := (s'.1 4 = s.1 4 ∧ t'.1 12 = t.1 12 ∧ t'.1 0 34 = t.1 0 34) ∨ (s'.1 4 1 = 1 ∧ t'.1 0 34 = 1 ∧ s'.1 4 4 = t'.1 12 0 ∧ s'.1 4 5 = t'.1 12 1 ∧ s'.1 4 6 = t'.1 12 2 ∧ s'.1 4 7 = t'.1 12 3 ∧ s'.1 4 8 = t'.1 12 4)
theorem prg_x {s : Sg} {M : Nat → Int32} (h : PrgR s M) : (s.1 27 6 = 0 ∧ M 11 = -1) ∨ ∃ X : Nat, PgX X s M := by
  rcases h with h | ⟨h1, X, h2, h3, h4⟩
  · exact Or.inl h
  · exact Or.inr ⟨X, ⟨h1, h2⟩, h3, h4⟩
theorem prg_of {s : Sg} {M : Nat → Int32} {X : Nat} (h : PgX X s M) : PrgR s M := Or.inr ⟨h.1.1, X, h.1.2, h.2.1, h.2.2⟩
theorem live_r {s t : Sg} {K : Int} (hK : 9999 ≤ K ∧ K + 200000 ≤ 900000000) (H : NowG 0 s t) (D : DyE s t) (G : GnR (t.1 1) K) (P : PrgR s (t.1 1)) (a : Int32) : RQ (f_X11_live a s) (f_X12_live a t) (fun r s' r' t' => (AnS r s' r' t' ∧ DyE s' t' ∧ GnR (t'.1 1) (K + 120000) ∧ PrgR s' (t'.1 1)) ∧ LvT s t s' t') := by
  have rf : ∀ w : Int32, RQ (bd (f_X11_refuse w s) (fun r s => some (r, s))) (bd (f_X12_refuse w t) (fun r t => some (r, t))) (fun r s' r' t' => (AnS r s' r' t' ∧ DyE s' t' ∧ GnR (t'.1 1) (K + 120000) ∧ PrgR s' (t'.1 1)) ∧ LvT s t s' t') := fun w => by
    have q1 : (pI t 0 2 w).1 1 = t.1 1 := pI_o _ _ _ _ _ (by decide)
    have q : RQ (some ((-1 : Int32), pI s 0 15 w)) (some ((-1 : Int32), pI t 0 2 w)) (fun r s' r' t' => (AnS r s' r' t' ∧ DyE s' t' ∧ GnR (t'.1 1) (K + 120000) ∧ PrgR s' (t'.1 1)) ∧ LvT s t s' t') := rq_s ⟨⟨⟨rfl, by rw [q_eq, q_eq], ng_k H (fun c hc => pI_o _ _ _ _ _ (by omega)) (fun k _ => q_nc rfl) (q_ne rfl)⟩, dye_k D (q_nc rfl) (q_nc rfl), by rw [q1]; exact gn_up G (by omega), by
      rw [q1]
      rcases prg_x P with y | ⟨X, y⟩
      · exact Or.inl ⟨by rw [q_nc rfl]; exact y.1, y.2⟩
      · exact prg_of (pgx_k y (fun c hc => pI_o _ _ _ _ _ (by omega)) (fun _ _ => rfl))⟩, Or.inl ⟨pI_o _ _ _ _ _ (by decide), pI_o _ _ _ _ _ (by decide), q_ne rfl⟩⟩
    exact q
  unfold f_X11_live f_X12_live
  refine rq_f (P := (0 : Int32).toInt ≤ a.toInt ∧ a.toInt ≤ (9999 : Int32).toInt) (wi_p a 0 9999 s) (from_m a 0 9999 t) Iff.rfl (fun _ => ?_) (fun _ => ?_)
  · rw [if1, if1]
    rcases prg_x P with ⟨y1, y2⟩ | ⟨X, y⟩
    · rw [if_pos y1, if_pos y2]
      exact rf 6
    · have n11 : ¬ t.1 1 11 = -1 := fun z => by
        have w := y.1.2.2.1
        rw [z] at w
        have e : (-1 : Int32).toInt = -1 := rfl
        omega
      rw [if_neg (by rw [y.1.1]; decide), if_neg n11]
      refine rq_b2 (run_r hK H D G y a) (fun _ s8 _ t8 k => ?_)
      obtain ⟨⟨⟨k1, k2⟩, ⟨u1, u2, u3, u4, u5, u6⟩, k4, k5, k6⟩, k7, k8⟩ := k
      refine rq_pp (P := fun r s' => r = s8.1 4 3 ∧ s' = pI s8 0 15 0) (pq_s ⟨rfl, rfl⟩) (lv_43 (t0 := t8) BIG 0 0 t8 rfl (by decide) (fun _ _ => rfl) (fun k hk => absurd hk (Nat.not_lt_zero _))) (fun r s' r' t' e f => ?_)
      obtain ⟨e1, e2⟩ := e
      obtain ⟨f1, ⟨f2, f3, f4⟩, f5, f6⟩ := f
      have m1 : t'.1 1 = t8.1 1 := f5 1 (by decide) (by decide)
      subst e2
      refine ⟨⟨⟨e1.trans (u2.trans f1.symm), by rw [q_eq, f3], ng_k k1 (fun c hc => pI_o _ _ _ _ _ (by omega)) (fun k _ => by rw [m1]) (f6 24 (by decide) (by decide))⟩, dye_k k2 (q_nc rfl) (by rw [m1]), by rw [m1]; exact gn_up k4 (by omega), by
        rw [m1]
        exact prg_of (pgx_k k7 (fun c hc => pI_o _ _ _ _ _ (by omega)) (fun _ _ => rfl))⟩, Or.inr ⟨?_, f2, ?_, ?_, ?_, ?_, ?_⟩⟩
      · rw [q_nc rfl]; exact k8.2
      · rw [q_nc rfl, f4 0 (by decide), u3, add0]
      · rw [q_nc rfl, f4 1 (by decide)]; exact u4
      · rw [q_nc rfl, f4 2 (by decide)]; exact u5
      · rw [q_nc rfl, f4 3 (by decide)]; exact u6
      · rw [q_nc rfl, f4 4 (by decide)]; exact k8.1
  · rw [if0, if0]
    exact rf 1
/-! grains' bounds through the calls of the reference; a night's call; best gives back what it lays -/
def Gq (K : Int) (_ : Int32) (t : Sg) : Prop := GnR (t.1 1) K
theorem gq_rf {t : Sg} {K : Int} (G : GnR (t.1 1) K) (w : Int32) : PQ (bd (f_X12_refuse w t) (fun r t => some (r, t))) (Gq K) := by
  have q : PQ (some ((-1 : Int32), pI t 0 2 w)) (Gq K) := pq_s (gn_c G (fun p _ _ => q_nc rfl))
  exact q
theorem gq_gv {t : Sg} {K : Int} (G : GnR (t.1 1) K) (v : Int32) : PQ (bd (f_X12_gives v t) (fun r t => some (r, t))) (Gq K) := by
  have q : PQ (some (v, pI t 0 2 0)) (Gq K) := pq_s (gn_c G (fun p _ _ => q_nc rfl))
  exact q
theorem gq_is {t : Sg} {K : Int} (G : GnR (t.1 1) K) (w : Int32) : PQ (bd (f_X12_is w t) (fun r t => ck (r = 0 ∨ r = 1) (some (r, t)))) (Gq K) := by
  refine pq_b (P := fun _ t' => GnR (t'.1 1) K) ?_ (fun r t2 g => pq_c (fun _ => pq_s g))
  unfold f_X12_is
  exact pq_if (fun _ => pq_s (gn_c G (fun p _ _ => q_nc rfl))) (fun _ => pq_s (gn_c G (fun p _ _ => q_nc rfl)))
theorem gq_strew (a g : Int32) {t : Sg} {K : Int} (hK : 9999 ≤ K ∧ K ≤ 900000000) (B : BdK t) (G : GnR (t.1 1) K) : PQ (f_X12_strew a g t) (Gq K) := by
  have b0 := B.1.2
  have e1 : (1 : Int32).toInt = 1 := rfl
  have e999 : (999 : Int32).toInt = 999 := rfl
  have fin : ∀ r, (¬ r = 1 → HsM (t.1 1) a ∧ 1 ≤ g.toInt ∧ g.toInt ≤ 999) → PQ (f_X12_strew_b21 a g r t) (Gq K) := fun r hr => by
    unfold f_X12_strew_b21
    refine pq_if (fun _ => gq_rf G 1) (fun n => ?_)
    obtain ⟨hs, g1, g2⟩ := hr n
    obtain ⟨h, ha, hh⟩ := hs_t b0 hs
    refine pq_b (room_m ha hh g t) (fun r5 t6 k => ?_)
    obtain ⟨et, k⟩ := k
    subst et
    refine pq_if (fun _ => gq_rf G 4) (fun c => pq_if (fun _ => gq_rf G 7) (fun _ => pq_b (gn_strews G ⟨hK.1, by omega⟩ ha hh (g := g) (by omega) (r1_y k c)) (fun _ t12 k => pq_b (hr_p a t12) (fun r13 t14 e => pq_c (fun _ => ?_)))))
    obtain ⟨et, -⟩ := e
    subst et
    exact gq_gv k _
  unfold f_X12_strew
  refine pq_b (from_m g 1 999 t) (fun r1 t2 k => ?_)
  obtain ⟨et, k⟩ := k
  subst et
  refine pq_if (fun _ => fin 1 (fun z => absurd rfl z)) (fun c => pq_b (wrong_m a b0) (fun r t3 l => ?_))
  have y := r1_y k c
  obtain ⟨et, l⟩ := l
  subst et
  exact fin r (fun n => ⟨wn_hs l n, by omega, by omega⟩)
theorem gq_buy (a g h : Int32) {t : Sg} {K : Int} (hK : 9999 ≤ K ∧ K ≤ 900000000) (B : BdK t) (b3 : (t.1 1 3).toInt ≤ 4) (hS : ∀ g : Nat, (g : Int) < (t.1 1 3).toInt → 0 ≤ (t.1 1 (94 + 3 * g)).toInt ∧ (t.1 1 (94 + 3 * g)).toInt ≤ 16) (G : GnR (t.1 1) K) : PQ (f_X12_buy a g h t) (Gq K) := by
  have b0 := B.1.2
  have e0 : (0 : Int32).toInt = 0 := rfl
  have e1 : (1 : Int32).toInt = 1 := rfl
  have e999 : (999 : Int32).toInt = 999 := rfl
  unfold f_X12_buy
  refine pq_if (fun _ => gq_rf G 1) (fun c1 => pq_if (fun _ => gq_rf G 1) (fun c2 => pq_b (from_m g 1 999 t) (fun r5 t6 k => ?_)))
  have c1 := i_nlt c1
  have c2 := i_nle c2
  obtain ⟨et, kg⟩ := k
  subst et
  refine pq_if (fun _ => gq_rf G 1) (fun cg => pq_b (isH_m h t6) (fun r9 t10 k => ?_))
  have y := r1_y kg cg
  obtain ⟨et, k⟩ := k
  subst et
  refine pq_if (fun _ => gq_rf G 1) (fun c => ?_)
  obtain ⟨n, hn, h8⟩ := hs_t b0 (r1_y k c)
  refine pq_b (room_m hn h8 g t10) (fun r13 t14 k => ?_)
  obtain ⟨et, kr⟩ := k
  subst et
  refine pq_if (fun _ => gq_rf G 4) (fun cr => pq_c (fun _ => pq_if (fun _ => pq_b (gone_m hn (by omega) t14) (fun r18 t19 k => ?_)) (fun _ => gq_rf G 6)))
  obtain ⟨et, -⟩ := k
  subst et
  exact pq_if (fun _ => pq_b (gn_buys G ⟨hK.1, by omega⟩ (g := a.toInt.toNat) (by omega) (by omega) hn h8 (n := g) (by omega) (hS _ (by omega)) (r1_y kr cr)) (fun r20 t21 k => gq_gv k _)) (fun _ => gq_rf G 7)
theorem gq_sweep (a : Int32) {t : Sg} {K : Int} (hK : 9999 ≤ K ∧ K ≤ 900000000) (B : BdK t) (G : GnR (t.1 1) K) : PQ (f_X12_sweep a t) (Gq K) := by
  have b0 := B.1.2
  unfold f_X12_sweep
  refine pq_b (wrong_m a b0) (fun r t3 k => ?_)
  obtain ⟨et, k⟩ := k
  subst et
  refine pq_if (fun c => ?_) (fun _ => gq_rf G _)
  obtain ⟨n, hn, h8⟩ := hs_t b0 (wn_hs k (fun z => by rw [z] at c; exact absurd c (by decide)))
  exact pq_b (gn_sweeps G ⟨hK.1, by omega⟩ hn h8) (fun r3 t4 k => gq_gv k.1 _)
theorem gq_shovel (a b g : Int32) {t : Sg} {K : Int} (hK : 9999 ≤ K ∧ K ≤ 900000000) (B : BdK t) (G : GnR (t.1 1) K) : PQ (f_X12_shovel a b g t) (Gq (K + 1000)) := by
  have b0 := B.1.2
  have e1 : (1 : Int32).toInt = 1 := rfl
  have e999 : (999 : Int32).toInt = 999 := rfl
  have up : GnR (t.1 1) (K + 1000) := gn_up G (by omega)
  unfold f_X12_shovel
  refine pq_b (isH_m a t) (fun r1 t2 k => ?_)
  obtain ⟨et, k⟩ := k
  subst et
  refine pq_if (fun _ => gq_rf up 1) (fun c => pq_b (isH_m b t2) (fun r5 t6 l => ?_))
  obtain ⟨et, l⟩ := l
  subst et
  refine pq_if (fun _ => gq_rf up 1) (fun d => ?_)
  obtain ⟨n, hn, h8⟩ := hs_t b0 (r1_y k c)
  obtain ⟨j, hj, j8⟩ := hs_t b0 (r1_y l d)
  refine pq_if (fun _ => gq_rf up 1) (fun _ => pq_b (from_m g 1 999 t6) (fun r11 t12 k => ?_))
  obtain ⟨et, kg⟩ := k
  subst et
  refine pq_if (fun _ => gq_rf up 1) (fun cg => pq_b (grains_m hn h8 t12) (fun r15 t16 k => ?_))
  have y := r1_y kg cg
  obtain ⟨et, -⟩ := k
  subst et
  refine pq_if (fun _ => pq_b (gone_m hn (by omega) t16) (fun r17 t18 k => ?_)) (fun _ => gq_rf up 6)
  obtain ⟨et, -⟩ := k
  subst et
  refine pq_if (fun _ => pq_b (gone_m hj (by omega) t18) (fun r19 t20 k => ?_)) (fun _ => gq_rf up 7)
  obtain ⟨et, -⟩ := k
  subst et
  exact pq_if (fun _ => pq_b (gn_brings G ⟨hK.1, by omega⟩ hn h8 hj j8 (n := g) (by omega)) (fun r21 t22 k => gq_gv (gn_up (gn_of_b G (by omega) k) (by omega)) _)) (fun _ => gq_rf up 7)
theorem gq_rain {t : Sg} {K : Int} (hK : 9999 ≤ K ∧ K ≤ 900000000) (B : BdK t) (h13 : 0 ≤ (t.1 1 13).toInt) (G : GnR (t.1 1) K) : PQ (f_X12_rain t) (Gq K) := by
  unfold f_X12_rain f_X12_rains
  exact pq_b (gn_rains ⟨hK.1, by omega⟩ BIG 0 0 0 t rfl (by decide) G B.1 h13) (fun r t2 k => gq_gv k _)
theorem gq_snow (n : Int32) {t : Sg} {K : Int} (B : BdK t) (G : GnR (t.1 1) K) : PQ (f_X12_snow n t) (Gq K) := by
  have e0 : (0 : Int32).toInt = 0 := rfl
  have e99 : (99 : Int32).toInt = 99 := rfl
  unfold f_X12_snow
  refine pq_b (from_m n 0 99 t) (fun r1 t2 k => ?_)
  obtain ⟨et, k⟩ := k
  subst et
  unfold f_X12_snows
  refine pq_if (fun _ => gq_is G 1) (fun c => ?_)
  have y := r1_y k c
  exact pq_b (gn_snows n (by omega) BIG 0 0 t2 rfl (by decide) G B.1) (fun r t3 k => gq_is k 0)
theorem gq_night {t : Sg} {K : Int} (hK : 9999 ≤ K ∧ K ≤ 900000000) (B : BdK t) (hc : ∀ c : Nat, (c : Int) < (t.1 1 2).toInt → 1 ≤ (t.1 1 (82 + 3 * c)).toInt ∧ (t.1 1 (82 + 3 * c)).toInt ≤ 99) (G : GnR (t.1 1) K) : PQ (f_X12_night t) (Gq (K + 400)) := by
  unfold f_X12_night
  exact pq_if (fun _ => gq_rf (gn_up G (by omega)) 4) (fun _ => pq_b (gn_night hK B hc G) (fun _ t2 k => gq_gv k _))
theorem nightc_r {s t : Sg} (H : NowG 0 s t) (D : DyE s t) : RQ (f_X11_night s) (f_X12_night t) (fun r s' r' t' => AnS r s' r' t' ∧ DyE s' t') := by
  have e1 : (1 : Int32).toInt = 1 := rfl
  have e999 : (999 : Int32).toInt = 999 := rfl
  obtain ⟨d1, d2, d3⟩ := D
  unfold f_X11_night f_X12_night
  rw [d1]
  refine rq_iC (fun c => rq_iM (fun d => ?_) (fun d => ?_)) (fun c => rq_iM (fun d => ?_) (fun d => ?_))
  · rw [d] at c
    exact absurd c (by decide)
  · have c := i_lt c
    have ad : (t.1 1 4 + 1).toInt = (t.1 1 4).toInt + (1 : Int32).toInt := i_addx _ _ (by omega)
    refine rq_b2 (night_r H) (fun _ s2 _ t4 k => ?_)
    obtain ⟨k1, k2, k3, -⟩ := k
    have e : s2.1 26 6 = t4.1 1 4 := by
      rw [k2, k3, d1]
      by_cases z : t.1 1 4 + 1 < 999
      · rw [if_pos z]
      · rw [if_neg z]
        have z := i_nlt z
        exact Int32.toInt_inj.mp (by omega)
    have q : RQ (some (s2.1 26 6, pI s2 0 15 0)) (some (t4.1 1 4, pI t4 0 2 0)) (fun r s' r' t' => AnS r s' r' t' ∧ DyE s' t') := rq_s ⟨⟨e, by rw [q_eq, q_eq], ng_k k1 (fun c hc => pI_o _ _ _ _ _ (by omega)) (fun k _ => q_nc rfl) (q_ne rfl)⟩, by rw [q_nc rfl, q_nc rfl]; exact e, by rw [q_nc rfl, k3]; omega, by rw [q_nc rfl, k3]; omega⟩
    exact q
  · have q : RQ (some ((-1 : Int32), pI s 0 15 4)) (some ((-1 : Int32), pI t 0 2 4)) (fun r s' r' t' => AnS r s' r' t' ∧ DyE s' t') := rq_s ⟨⟨rfl, by rw [q_eq, q_eq], ng_k H (fun c hc => pI_o _ _ _ _ _ (by omega)) (fun k _ => q_nc rfl) (q_ne rfl)⟩, by rw [q_nc rfl, q_nc rfl]; exact d1, by rw [q_nc rfl]; exact d2, by rw [q_nc rfl]; exact d3⟩
    exact q
  · have c := i_nlt c
    have d := i_ne d
    omega
/-! best -/
theorem sub_add (a b : Int32) : (a + b) - b = a := Int32.toInt_inj.mp (by
  have h := i_sub (a + b) b
  have g := i_add a b
  have x := Int32.toInt_lt a
  have y := Int32.le_toInt a
  omega)
theorem rs_f1 {L : Nat} {t0 t t' : Sg} (h : ∀ p, p < 110 → t.1 1 p = t0.1 1 p) (f : Fr cdN L t t') (e1 : L.testBit 1 = false) : ∀ p, p < 110 → t'.1 1 p = t0.1 1 p := fun p hp => (fr_e f 1 p 1 rfl e1).trans (h p hp)
theorem bs_2 {t0 t : Sg} {v : Int32} (h : ∀ p, p < 110 → t.1 1 p = t0.1 1 p) : ∀ p, p < 110 → (pI t 0 2 v).1 1 p = t0.1 1 p := fun p hp => by rw [q_nc rfl]; exact h p hp
def Bs (t0 : Sg) (_ : Int32) (t : Sg) : Prop := ∀ p, p < 110 → t.1 1 p = t0.1 1 p
theorem bs_rf {t0 t : Sg} (h : ∀ p, p < 110 → t.1 1 p = t0.1 1 p) (w : Int32) : PQ (bd (f_X12_refuse w t) (fun r t => some (r, t))) (Bs t0) := by
  have q : PQ (some ((-1 : Int32), pI t 0 2 w)) (Bs t0) := pq_s (bs_2 h)
  exact q
theorem bs_gv {t0 t : Sg} (h : ∀ p, p < 110 → t.1 1 p = t0.1 1 p) (v : Int32) : PQ (bd (f_X12_gives v t) (fun r t => some (r, t))) (Bs t0) := by
  have q : PQ (some (v, pI t 0 2 0)) (Bs t0) := pq_s (bs_2 h)
  exact q
theorem bs_b32 {t0 : Sg} (B : BdK t0) (m : Nat) : ∀ (i : Nat) (v1 v2 v3 v4 v5 : Int32) (t : Sg), v5.toInt = (i : Int) → i ≤ 8 → (∀ p, p < 110 → t.1 1 p = t0.1 1 p) → PQ (f_X12_best_b32 m v1 v2 v3 v4 v5 t) (Bs t0) := by
  induction m with
  | zero => intro i v1 v2 v3 v4 v5 t _ _ _ r t' z; cases z
  | succ m ih =>
    intro i v1 v2 v3 v4 v5 t hv hi K
    have e1 : (1 : Int32).toInt = 1 := rfl
    have b0 : (t.1 1 0).toInt ≤ 8 := by rw [K 0 (by decide)]; exact B.1.2
    unfold f_X12_best_b32 f_X12_orNone
    refine pq_if (fun _ => pq_b (P := Bs t0) (pq_if (fun _ => bs_rf K 6) (fun _ => bs_gv K _)) (fun r t8 g => pq_s g)) (fun c => ?_)
    have c := i_nle c
    have hh : i < 8 := by omega
    have a5 : (v5 + 1).toInt = ((i + 1 : Nat) : Int) := by rw [i_addx _ _ (by omega)]; omega
    refine pq_b (gone_m hv (by omega) t) (fun r9 t10 k => ?_)
    obtain ⟨et, -⟩ := k
    subst et
    refine pq_if (fun _ => pq_b (hr_p v5 t10) (fun r11 t12 k => pq_c (fun _ => pq_n (fun t14 e14 => ?_)))) (fun _ => ih (i + 1) _ _ _ _ (v5 + 1) t10 a5 (by omega) K)
    obtain ⟨et, er⟩ := k
    subst et
    rw [er, (hr_x hv hh).1] at e14
    have K14 : ∀ p, p < 110 → ¬ p = 16 + 3 * i → t14.1 1 p = t0.1 1 p := fun p hp z => by rw [e14, pI_1, if_neg (fun y => z y.2)]; exact K p hp
    have x14 : t14.1 1 (16 + 3 * i) = t0.1 1 (16 + 3 * i) + v1 := by rw [e14, q_eq, K _ (by omega)]
    refine pq_b (ft_X12_setOf 0 t14) (fun r15 t16 f16 => pq_b (ft_X12_bits _ t16) (fun r17 t18 f18 => pq_b (hr_p v5 t18) (fun r19 t20 k => pq_c (fun _ => pq_n (fun t22 e22 => ?_)))))
    obtain ⟨et, er⟩ := k
    have y20 : ∀ p, t20.1 1 p = t14.1 1 p := fun p => by rw [et]; exact (fr_e f18 1 p 1 rfl rfl).trans (fr_e f16 1 p 1 rfl rfl)
    rw [er, (hr_x hv hh).1] at e22
    have K22 : ∀ p, p < 110 → t22.1 1 p = t0.1 1 p := fun p hp => by
      rw [e22, pI_1]
      by_cases z : p = 16 + 3 * i
      · rw [if_pos ⟨rfl, z⟩, y20, x14, sub_add, z]
      · rw [if_neg (fun y => z y.2), y20]
        exact K14 p hp z
    exact pq_if (fun _ => ih (i + 1) _ _ _ _ (v5 + 1) t22 a5 (by omega) K22) (fun _ => ih (i + 1) _ _ _ _ (v5 + 1) t22 a5 (by omega) K22)
theorem bs_best (g : Int32) {t : Sg} (B : BdK t) : PQ (f_X12_best g t) (Bs t) := by
  unfold f_X12_best
  refine pq_b (from_m g 1 999 t) (fun r1 t2 k => ?_)
  obtain ⟨et, -⟩ := k
  subst et
  exact pq_if (fun _ => bs_rf (fun _ _ => rfl) 1) (fun _ => pq_b (ft_X12_setOf 0 t2) (fun r5 t6 f => bs_b32 B BIG 0 _ _ _ _ 0 t6 rfl (by decide) (fun p _ => fr_e f 1 p 1 rfl rfl)))
/-! the ground and the program of a world and of a slot; the relation of both sides -/
def PrW (o : Nat) (s : Sg) (M : Nat → Int32) : Prop := (s.1 (27 + o) 6 = 0 ∧ M 11 = -1) ∨ (s.1 (27 + o) 6 = 1 ∧ ∃ X : Nat, (s.1 (27 + o) 7 = M 11 ∧ (M 11).toInt = (X : Int) ∧ X ≤ 60) ∧ (∀ k : Nat, k < X → (RwR (24 + o) 110 s M k ∧ VdR 110 M k) ∧ ((s.1 (45 + o) k = 124 ∨ s.1 (45 + o) k = 128 ∨ s.1 (45 + o) k = 129) → s.1 (50 + o) k = M (110 + 6 * k + 4))) ∧ ∃ st : Nat → Int32, NsA (fun k => M (110 + 6 * k)) (fun k => M (110 + 6 * k + 4)) st 0 X)
theorem prw_0 {s : Sg} {M : Nat → Int32} : PrW 0 s M ↔ PrgR s M := Iff.rfl
theorem prw_x {o o' : Nat} {s s' : Sg} {M M' : Nat → Int32} (h : PrW o s M) (hs : ∀ i k, (i = 3 ∨ (21 ≤ i ∧ i ≤ 26)) → loW i ≤ k → k < hiW i → s'.1 (24 + o' + i) k = s.1 (24 + o + i) k) (hM : ∀ p, (110 ≤ p ∧ p < 480) ∨ PlP p ∨ p = 11 → M' p = M p) : PrW o' s' M' := by
  have m11 := hM 11 (Or.inr (Or.inr rfl))
  have c6 : s'.1 (27 + o') 6 = s.1 (27 + o) 6 := by
    rw [show 27 + o' = 24 + o' + 3 by omega, show 27 + o = 24 + o + 3 by omega]
    exact hs 3 6 (Or.inl rfl) (by decide) (by decide)
  have c7 : s'.1 (27 + o') 7 = s.1 (27 + o) 7 := by
    rw [show 27 + o' = 24 + o' + 3 by omega, show 27 + o = 24 + o + 3 by omega]
    exact hs 3 7 (Or.inl rfl) (by decide) (by decide)
  rcases h with ⟨h1, h2⟩ | ⟨h1, X, ⟨h2, h3, h4⟩, h5, st, h6⟩
  · exact Or.inl ⟨by rw [c6]; exact h1, by rw [m11]; exact h2⟩
  · have big : ∀ p, 110 ≤ p → p < 480 → M' p = M p := fun p hp hq => hM p (Or.inl ⟨hp, hq⟩)
    have sm : ∀ p, p < 4 ∨ p = 9 → M' p = M p := fun p hp => hM p (Or.inr (Or.inl (plp_0 (by omega))))
    refine Or.inr ⟨by rw [c6]; exact h1, X, ⟨by rw [c7, m11]; exact h2, by rw [m11]; exact h3, h4⟩, fun k hk => ?_, st, ns_e h6 (fun k hk => ⟨big _ (by omega) (by omega), big _ (by omega) (by omega)⟩)⟩
    have w := h5 k hk
    have k60 : k < 60 := by omega
    have r : ∀ i, 21 ≤ i → i ≤ 26 → s'.1 (24 + o' + i) k = s.1 (24 + o + i) k := fun i i1 i2 => hs i k (Or.inr ⟨i1, i2⟩) (by
      unfold loW
      rw [if_neg (by omega), if_neg (by omega), if_neg (by omega)]
      exact Nat.zero_le _) (by
      unfold hiW
      rw [if_neg (by omega), if_neg (by omega), if_neg (by omega), if_neg (by omega), if_neg (by omega), if_neg (by omega), if_neg (by omega), if_neg (by omega), if_neg (by omega), if_neg (by omega), if_pos (by omega)]
      exact k60)
    have r21 := r 21 (by decide) (by decide)
    have r26 := r 26 (by decide) (by decide)
    rw [show 45 + o = 24 + o + 21 by omega, show 50 + o = 24 + o + 26 by omega] at w
    rw [show 45 + o' = 24 + o' + 21 by omega, show 50 + o' = 24 + o' + 26 by omega]
    unfold RwR VdR at w ⊢
    rw [r21, r 22 (by decide) (by decide), r 23 (by decide) (by decide), r 24 (by decide) (by decide), r 25 (by decide) (by decide), r26, big (110 + 6 * k) (by omega) (by omega), big (110 + 6 * k + 1) (by omega) (by omega), big (110 + 6 * k + 2) (by omega) (by omega), big (110 + 6 * k + 3) (by omega) (by omega), big (110 + 6 * k + 4) (by omega) (by omega), big (110 + 6 * k + 5) (by omega) (by omega), sm 0 (by omega), sm 1 (by omega), sm 3 (by omega), sm 9 (by omega)]
    exact w
/-- the ground: cells and places, who is over, the day, whether it rained, the grains' bounds -/
def GrX (o : Nat) (s : Sg) (M : Nat → Int32) (K : Int) : Prop := (GrdT o s M ∧ OvR o s M) ∧ (s.1 (26 + o) 6 = M 4 ∧ 0 ≤ (M 4).toInt ∧ (M 4).toInt ≤ 999) ∧ (M 10 = 0 ∨ M 10 = 1) ∧ Gz M ∧ GnR M K
theorem gp_lt {o c k p : Nat} (h : Gp o c k p) : p < 110 := by
  unfold Gp at h
  omega
theorem grx_x {o o' : Nat} {s s' : Sg} {M M' : Nat → Int32} {K K' : Int} (h : GrX o s M K) (hK : K ≤ K') (hs : ∀ i k, (i = 2 ∨ (16 ≤ i ∧ i ≤ 20)) → loW i ≤ k → k < hiW i → s'.1 (24 + o' + i) k = s.1 (24 + o + i) k) (hM : ∀ p, p < 110 → M' p = M p) : GrX o' s' M' K' := by
  obtain ⟨⟨h1, h2, h3, h4⟩, ⟨h5, h6, h7⟩, h8, h9, h10⟩ := h
  refine ⟨⟨fun c k p g => ?_, fun q hq => ?_, fun q hq hQ => ?_, fun i hi => ?_⟩, ⟨?_, ?_, ?_⟩, ?_, fun x hx hb => ?_, gn_up (gn_c h10 (fun p p1 p2 => hM p (by omega))) hK⟩
  · rw [hM p (gp_lt g)]
    rcases g with ⟨hk, ⟨e, e2⟩ | ⟨e, e2⟩ | ⟨e, e2⟩ | ⟨e, e2⟩⟩ | ⟨hk, e, e2⟩ | ⟨e, e2⟩
    · rw [e, show 40 + o' = 24 + o' + 16 by omega, hs 16 k (by omega) (Nat.zero_le _) hk, show 24 + o + 16 = 40 + o by omega]
      exact h1 _ k p (Or.inl ⟨hk, Or.inl ⟨rfl, e2⟩⟩)
    · rw [e, show 41 + o' = 24 + o' + 17 by omega, hs 17 k (by omega) (Nat.zero_le _) hk, show 24 + o + 17 = 41 + o by omega]
      exact h1 _ k p (Or.inl ⟨hk, Or.inr (Or.inl ⟨rfl, e2⟩)⟩)
    · rw [e, show 42 + o' = 24 + o' + 18 by omega, hs 18 k (by omega) (Nat.zero_le _) hk, show 24 + o + 18 = 42 + o by omega]
      exact h1 _ k p (Or.inl ⟨hk, Or.inr (Or.inr (Or.inl ⟨rfl, e2⟩))⟩)
    · rw [e, show 43 + o' = 24 + o' + 19 by omega, hs 19 k (by omega) (Nat.zero_le _) hk, show 24 + o + 19 = 43 + o by omega]
      exact h1 _ k p (Or.inl ⟨hk, Or.inr (Or.inr (Or.inr ⟨rfl, e2⟩))⟩)
    · rw [e, show 44 + o' = 24 + o' + 20 by omega, hs 20 k (by omega) (Nat.zero_le _) hk, show 24 + o + 20 = 44 + o by omega]
      exact h1 _ k p (Or.inr (Or.inl ⟨hk, rfl, e2⟩))
    · rw [e, show 26 + o' = 24 + o' + 2 by omega, hs 2 k (by omega) (show 5 ≤ k by omega) (show k < 13 by omega), show 24 + o + 2 = 26 + o by omega]
      exact h1 _ k p (Or.inr (Or.inr ⟨rfl, e2⟩))
  · rw [hM _ (by omega)]; exact h2 q hq
  · rw [hM 1 (by decide)] at hQ
    rw [hM _ (by omega)]; exact h3 q hq hQ
  · rw [show 26 + o' = 24 + o' + 2 by omega, hs 2 5 (by omega) (by decide) (by decide), show 24 + o + 2 = 26 + o by omega, h4 i hi]
    apply decide_eq_decide.mpr
    constructor
    · intro w; exact ⟨w.1, by rw [hM _ (by omega)]; exact w.2⟩
    · intro w
      have y := w.2
      rw [hM _ (by omega)] at y
      exact ⟨w.1, y⟩
  · rw [show 26 + o' = 24 + o' + 2 by omega, hs 2 6 (by omega) (by decide) (by decide), show 24 + o + 2 = 26 + o by omega, hM 4 (by decide)]
    exact h5
  · rw [hM 4 (by decide)]; exact h6
  · rw [hM 4 (by decide)]; exact h7
  · rw [hM 10 (by decide)]; exact h8
  · rw [hM 9 (by decide)] at hb
    rw [hM _ (by omega), hM _ (by omega), hM _ (by omega)]
    exact h9 x hx hb
def GwR (o : Nat) (s : Sg) (M : Nat → Int32) (K : Int) : Prop := GrX o s M K ∧ PrW o s M
theorem gw_x {o o' : Nat} {s s' : Sg} {M M' : Nat → Int32} {K K' : Int} (h : GwR o s M K) (hK : K ≤ K') (hs : ∀ i k, (i = 2 ∨ i = 3 ∨ (16 ≤ i ∧ i ≤ 26)) → loW i ≤ k → k < hiW i → s'.1 (24 + o' + i) k = s.1 (24 + o + i) k) (hM : ∀ p, p < 480 → M' p = M p) : GwR o' s' M' K' :=
  ⟨grx_x h.1 hK (fun i k hi => hs i k (by omega)) (fun p hp => hM p (by omega)), prw_x h.2 (fun i k hi => hs i k (by omega)) (fun p hp => hM p (by
    rcases hp with z | z | z
    · omega
    · have := (plp_lt z).1
      omega
    · omega))⟩
def MgR (K : Int) (s t : Sg) : Prop := ∀ j : Nat, (j : Int) < (t.1 0 35).toInt → GwR (54 + 27 * j) s (fun k => t.1 1 (480 * (j + 1) + k)) K
def FgR (K : Int) (s t : Sg) : Prop := GwR 0 s (t.1 1) K ∧ MgR K s t
/-- cells of the ground and the program, the marks' -/
def GkC (s s' : Sg) : Prop := ∀ c, (c = 26 ∨ c = 27 ∨ (40 ≤ c ∧ c ≤ 50)) → s'.1 c = s.1 c
def GmC (s s' : Sg) : Prop := ∀ c, ((c = 80 ∨ c = 81 ∨ (94 ≤ c ∧ c ≤ 104)) ∨ (c = 107 ∨ c = 108 ∨ (121 ≤ c ∧ c ≤ 131)) ∨ (c = 134 ∨ c = 135 ∨ (148 ≤ c ∧ c ≤ 158))) → s'.1 c = s.1 c
theorem gw_k {o : Nat} {s s' : Sg} {M M' : Nat → Int32} {K K' : Int} (h : GwR o s M K) (hK : K ≤ K') (hs : ∀ c, (c = 26 + o ∨ c = 27 + o ∨ (40 + o ≤ c ∧ c ≤ 50 + o)) → s'.1 c = s.1 c) (hM : ∀ p, p < 480 → M' p = M p) : GwR o s' M' K' := gw_x h hK (fun i k hi _ _ => by rw [hs (24 + o + i) (by omega)]) hM
theorem mg_k {s t s' t' : Sg} {K K' : Int} (r : (t.1 0 35).toInt ≤ 3) (h : MgR K s t) (hK : K ≤ K') (c : GmC s s') (m : ∀ p, 480 ≤ p → p < 1920 → t'.1 1 p = t.1 1 p) (m35 : t'.1 0 35 = t.1 0 35) : MgR K' s' t' := fun j hj => by
  rw [m35] at hj
  exact gw_k (h j hj) hK (fun c' hc => c c' (by omega)) (fun p hp => m _ (by omega) (by omega))
theorem fg_k {s t s' t' : Sg} {K K' : Int} (r : (t.1 0 35).toInt ≤ 3) (h : FgR K s t) (hK : K ≤ K') (c : GkC s s') (cm : GmC s s') (m0 : ∀ p, p < 480 → t'.1 1 p = t.1 1 p) (m : ∀ p, 480 ≤ p → p < 1920 → t'.1 1 p = t.1 1 p) (m35 : t'.1 0 35 = t.1 0 35) : FgR K' s' t' := ⟨gw_k h.1 hK (fun c' hc => c c' (by omega)) m0, mg_k r h.2 hK cm m m35⟩
theorem fg_mark {s t s' t' : Sg} {K : Int} (r : 0 ≤ (t.1 0 35).toInt ∧ (t.1 0 35).toInt ≤ 3) (h : FgR K s t) (e14 : s.1 0 14 = t.1 0 35) (c : McW s s') (m : MmW t t') : FgR K s' t' := by
  rw [McW, e14] at c
  rcases c with ⟨c1, c2⟩ | ⟨j, j3, c1, c2⟩ <;> rcases m with ⟨m1, m2, m3, m4, m5⟩ | ⟨i, i3, m1, m2, m3, m4, m5⟩
  · exact fg_k r.2 h (by omega) (fun c hc => (c2 c (by omega)).1 ▸ rfl) (fun c hc => (c2 c (by omega)).1 ▸ rfl) (fun p _ => by rw [m2]) (fun p _ _ => by rw [m2]) m4
  · omega
  · omega
  · have ij : i = j := by omega
    subst ij
    refine ⟨gw_x h.1 (by omega) (fun x k hx _ _ => by rw [(c2.1 (24 + 0 + x) (by omega) (by omega)).1]) (fun p hp => m4.2 p (by omega)), fun j hj => ?_⟩
    by_cases z : j = i
    · subst z
      refine gw_x h.1 (by omega) (fun x k hx k1 k2 => ?_) (fun k hk => ?_)
      · have w := c2.2.1 x k (by omega) (by omega) k1 k2
        rw [show 24 + (54 + 27 * j) + x = 78 + 27 * j + x by omega]
        exact w
      · have w := m4.1 k (by omega)
        rw [show 480 * 0 + k = k by omega] at w
        exact w
    · exact gw_x (h.2 j (by omega)) (by omega) (fun x k hx _ _ => by rw [(c2.1 (24 + (54 + 27 * j) + x) (by omega) (by omega)).1]) (fun k hk => m4.2 _ (by omega))
theorem fg_back {s t s' t' : Sg} {K : Int} (r : 0 ≤ (t.1 0 35).toInt ∧ (t.1 0 35).toInt ≤ 3) (h : FgR K s t) (e14 : s.1 0 14 = t.1 0 35) (c : BcW s s') (m : BmW t t') : FgR K s' t' := by
  rw [BcW, e14] at c
  rcases c with ⟨c1, c2⟩ | ⟨j, j3, c1, c2⟩ <;> rcases m with ⟨m1, m2, m3, m4, m5⟩ | ⟨i, i3, m1, m2, m3, m4, m5⟩
  · exact fg_k r.2 h (by omega) (fun c hc => (c2 c (by omega)).1 ▸ rfl) (fun c hc => (c2 c (by omega)).1 ▸ rfl) (fun p _ => by rw [m2]) (fun p _ _ => by rw [m2]) m4
  · omega
  · omega
  · have ij : i = j := by omega
    subst ij
    refine ⟨gw_x (h.2 i (by omega)) (by omega) (fun x k hx k1 k2 => ?_) (fun k hk => ?_), fun j hj => ?_⟩
    · have w := c2.2.1 x k (by omega) (by omega) k1 k2
      rw [show 24 + (54 + 27 * i) + x = 78 + 27 * i + x by omega]
      exact w
    · have w := m4.1 k (by omega)
      rw [show 480 * 0 + k = k by omega] at w
      exact w
    · exact gw_x (h.2 j (by omega)) (by omega) (fun x k hx _ _ => by rw [(c2.1 (24 + (54 + 27 * j) + x) (by omega) (by omega)).1]) (fun k hk => m4.2 _ (by omega))
/-! from the frames of both sides -/
abbrev MGW : Nat := 730394077518349360018054694594215900549272829952
abbrev MGQ : Nat := 730394077518349360018054694594213649848769445888
abbrev MGD : Nat := 730394077518349360018054694594215866464345260032
abbrev MGX : Nat := 3802951810128304277521812160514
abbrev MGY : Nat := 3802951800684724233287128580096
abbrev MGE : Nat := 2535301200456494831790425374720
set_option maxRecDepth 20000 in
theorem mgw_b : ∀ c, c < 160 → (c = 26 ∨ c = 27 ∨ (40 ≤ c ∧ c ≤ 50)) → MGW.testBit c = true := by decide +kernel
set_option maxRecDepth 20000 in
theorem mgx_b : ∀ c, c < 160 → ((c = 80 ∨ c = 81 ∨ (94 ≤ c ∧ c ≤ 104)) ∨ (c = 107 ∨ c = 108 ∨ (121 ≤ c ∧ c ≤ 131)) ∨ (c = 134 ∨ c = 135 ∨ (148 ≤ c ∧ c ≤ 158))) → MGW.testBit c = true ∧ MGQ.testBit c = true ∧ MGD.testBit c = true := by decide +kernel
set_option maxRecDepth 20000 in
theorem mgd_b : ∀ c, c < 160 → (c = 27 ∨ (45 ≤ c ∧ c ≤ 50)) → MGD.testBit c = true := by decide +kernel
theorem gc_f {L : Nat} {s s' : Sg} (f : Fr cC L s s') {c : Nat} (h : c < 160 ∧ 10 ≤ c ∧ ¬ c = 52 ∧ ¬ c = 54) (b : L.testBit c = false) : s'.1 c = s.1 c := funext fun k => (f c k (by
  rw [cC_id c k (by omega) (by omega) (by omega) h.2.2.1 h.2.2.2]
  exact b)).1
theorem gkc_f {L : Nat} {s s' : Sg} (f : Fr cC L s s') (e : L &&& MGW = 0) : GkC s s' ∧ GmC s s' := ⟨fun c hc => gc_f f (by omega) (and_b e (mgw_b c (by omega) hc)), fun c hc => gc_f f (by omega) (and_b e (mgx_b c (by omega) hc).1)⟩
theorem gmc_q {L : Nat} {s s' : Sg} (f : Fr cC L s s') (e : L &&& MGQ = 0) : GmC s s' := fun c hc => gc_f f (by omega) (and_b e (mgx_b c (by omega) hc).2.1)
theorem gmc_d {L : Nat} {s s' : Sg} (f : Fr cC L s s') (e : L &&& MGD = 0) : GmC s s' ∧ ∀ c, (c = 27 ∨ (45 ≤ c ∧ c ≤ 50)) → s'.1 c = s.1 c := ⟨fun c hc => gc_f f (by omega) (and_b e (mgx_b c (by omega) hc).2.2), fun c hc => gc_f f (by omega) (and_b e (mgd_b c (by omega) hc))⟩
theorem cd_ro {p : Nat} (h : 110 ≤ p) (h2 : p < 480) : cdM 1 p = 100 := by rw [cdM_x, if_neg (by omega), if_neg (by omega), if_pos h2]
theorem mgx_l : ∀ p, p < 13 → MGX.testBit (60 + p) = true := by decide
theorem gm_lo {L : Nat} {t t' : Sg} (f : Fr cdM L t t') (e : L &&& MGX = 0) : ∀ p, p < 110 → t'.1 1 p = t.1 1 p := fun p hp => by
  by_cases z : p < 13
  · exact fr_e f 1 p (60 + p) (cd_lo z) (and_b e (mgx_l p z))
  · exact fr_e f 1 p 1 (cd_mi (by omega) hp) (and_b e (by decide))
theorem mgy_x {L : Nat} (e : L &&& MGX = 0) : L.testBit 100 = false ∧ L.testBit 101 = false ∧ L.testBit 55 = false := ⟨and_b e (by decide), and_b e (by decide), and_b e (by decide)⟩
theorem mgy_y {L : Nat} (e : L &&& MGY = 0) : L.testBit 100 = false ∧ L.testBit 101 = false ∧ L.testBit 55 = false := ⟨and_b e (by decide), and_b e (by decide), and_b e (by decide)⟩
theorem fg_m {s t s' t' : Sg} {K K' : Int} {L : Nat} (r : (t.1 0 35).toInt ≤ 3) (F : FgR K s t) (hK : K ≤ K') (c : GkC s s' ∧ GmC s s') (lo : ∀ p, p < 110 → t'.1 1 p = t.1 1 p) (f : Fr cdM L t t') (e : L.testBit 100 = false ∧ L.testBit 101 = false ∧ L.testBit 55 = false) : FgR K' s' t' := fg_k r F hK c.1 c.2 (fun p hp => by
  by_cases z : p < 110
  · exact lo p z
  · exact fr_e f 1 p 100 (cd_ro (by omega) hp) e.1) (fun p h1 h2 => fr_e f 1 p 101 (cd_mk h1 h2) e.2.1) (fr_e f 0 35 55 rfl e.2.2)
theorem fg_f {s t s' t' : Sg} {K K' : Int} {L L2 : Nat} (r : (t.1 0 35).toInt ≤ 3) (F : FgR K s t) (hK : K ≤ K') (fc : Fr cC L s s') (ec : L &&& MGW = 0) (f : Fr cdM L2 t t') (e : L2 &&& MGX = 0) : FgR K' s' t' := fg_m r F hK (gkc_f fc ec) (gm_lo f e) f (mgy_x e)
theorem fg_s {s t s' t' : Sg} {K K' : Int} {L L2 : Nat} (r : (t.1 0 35).toInt ≤ 3) (F : FgR K s t) (hK : K ≤ K') (fc : Fr cC L s s') (ec : L &&& MGW = 0) (lo : ∀ p, p < 110 → t'.1 1 p = t.1 1 p) (f : Fr cdM L2 t t') (e : L2 &&& MGY = 0) : FgR K' s' t' := fg_m r F hK (gkc_f fc ec) lo f (mgy_y e)
theorem now_of {s t : Sg} {K : Int} (W : WmR s t) (F : FgR K s t) : NowG 0 s t := ⟨⟨W.1.1.1, F.1.1.1.1, F.1.1.1.2⟩, ⟨F.1.1.2.2.1, W.1.2⟩, W.1.1.2.1, F.1.1.2.2.2.1⟩
theorem dye_of {s t : Sg} {K : Int} (F : FgR K s t) : DyE s t := F.1.1.2.1
theorem gn_of {s t : Sg} {K : Int} (F : FgR K s t) : GnR (t.1 1) K := F.1.1.2.2.2.2
theorem prg_o {s t : Sg} {K : Int} (F : FgR K s t) : PrgR s (t.1 1) := F.1.2
theorem grx_an {s t : Sg} {K : Int} (H : NowG 0 s t) (D : DyE s t) (G : GnR (t.1 1) K) : GrX 0 s (t.1 1) K := ⟨⟨H.1.2.1, H.1.2.2⟩, D, H.2.1.1, H.2.2.2, G⟩
theorem fg_do {s t s' t' : Sg} {K K' : Int} {L L2 : Nat} (r : (t.1 0 35).toInt ≤ 3) (F : FgR K s t) (hK : K ≤ K') (fc : Fr cC L s s') (ec : L &&& MGD = 0) (f : Fr cdM L2 t t') (e : L2 &&& MGE = 0) (pk : PK t t') (H : NowG 0 s' t') (D : DyE s' t') (G : GnR (t'.1 1) K') : FgR K' s' t' := by
  have c := gmc_d fc ec
  exact ⟨⟨grx_an H D G, prw_x F.1.2 (fun i k hi _ _ => by rw [c.2 (24 + 0 + i) (by omega)]) (fun p hp => pk.1 p (hp.imp (fun z => z.1) id))⟩, mg_k r F.2 hK c.1 (fun p h1 h2 => fr_e f 1 p 101 (cd_mk h1 h2) (and_b e (by decide))) (fr_e f 0 35 55 rfl (and_b e (by decide)))⟩
theorem fg_street {s t s' t' : Sg} {K K' : Int} {L : Nat} (r : (t.1 0 35).toInt ≤ 3) (F : FgR K s t) (hK : K ≤ K') (h9 : 9999 ≤ K') (fc : Fr cC L s s') (hL : L &&& MGQ = 0) (kc : KpC0 s s') (km : KpM0 t t') (m1 : ∀ p, 480 ≤ p → p < 1920 → t'.1 1 p = t.1 1 p) (m35 : t'.1 0 35 = t.1 0 35) (es : s'.1 0 15 = t'.1 0 2) (fr : s'.1 0 15 = 0 → FreshP s' t') (th : s'.1 0 15 = 0 → s'.1 27 6 = 0) (gs : s'.1 0 15 = 0 → ∀ k, k < 8 → (0 ≤ (s'.1 40 k).toInt ∧ (s'.1 40 k).toInt ≤ 999) ∧ (0 ≤ (s'.1 41 k).toInt ∧ (s'.1 41 k).toInt ≤ 999) ∧ s'.1 42 k = 0) : FgR K' s' t' := by
  refine ⟨?_, mg_k r F.2 hK (gmc_q fc hL) m1 m35⟩
  by_cases z : s'.1 0 15 = 0
  · have f := fr z
    have g := gs z
    have e0 : (0 : Int32).toInt = 0 := rfl
    refine ⟨⟨⟨f.1.1.2.1, f.1.1.2.2⟩, ⟨f.2.1.1, by rw [f.2.1.2, e0]; decide, by rw [f.2.1.2, e0]; decide⟩, f.1.2.1, f.1.2.2.2, fun h hh => ?_⟩, Or.inl ⟨th z, f.2.2.2⟩⟩
    have G := f.1.1.2.1
    have w := g h hh
    rw [G 40 h _ (Or.inl ⟨hh, Or.inl ⟨rfl, rfl⟩⟩), G 41 h _ (Or.inl ⟨hh, Or.inr (Or.inl ⟨rfl, rfl⟩)⟩), G 42 h _ (Or.inl ⟨hh, Or.inr (Or.inr (Or.inl ⟨rfl, rfl⟩))⟩)] at w
    rw [w.2.2, e0]
    omega
  · have c := kc.elim (fun y => absurd y z) id
    have m := km.elim (fun y => absurd (es.trans y) z) id
    exact gw_k F.1 hK (fun c' hc => (c c' (by omega)).1) (fun p hp => m.1 p (by omega))
abbrev MGU : Nat := 730394077518349360018054694594213683933697015808
abbrev MGV : Nat := 2535301207538891634590286348290
set_option maxRecDepth 20000 in
theorem mgu_b : ∀ c, c < 160 → ((c = 26 ∨ (40 ≤ c ∧ c ≤ 44)) ∨ ((c = 80 ∨ c = 81 ∨ (94 ≤ c ∧ c ≤ 104)) ∨ (c = 107 ∨ c = 108 ∨ (121 ≤ c ∧ c ≤ 131)) ∨ (c = 134 ∨ c = 135 ∨ (148 ≤ c ∧ c ≤ 158)))) → MGU.testBit c = true := by decide +kernel
theorem mgv_l : ∀ p, p < 13 → ¬ p = 11 → MGV.testBit (60 + p) = true := by decide
/-- the ground of a street looks at no place 11 -/
theorem grx_11 {o : Nat} {s s' : Sg} {M M' : Nat → Int32} {K K' : Int} (h : GrX o s M K) (hK : K ≤ K') (hs : ∀ c, (c = 26 + o ∨ (40 + o ≤ c ∧ c ≤ 44 + o)) → s'.1 c = s.1 c) (hM : ∀ p, p < 110 → ¬ p = 11 → M' p = M p) : GrX o s' M' K' := by
  obtain ⟨M2, hM2⟩ : ∃ f : Nat → Int32, ∀ p, f p = if p = 11 then M 11 else M' p := ⟨_, fun _ => rfl⟩
  have y : GrX o s' M2 K' := grx_x h hK (fun i k hi _ _ => by rw [hs (24 + o + i) (by omega)]) (fun p hp => by
    rw [hM2]
    by_cases z : p = 11
    · rw [if_pos z, z]
    · rw [if_neg z]; exact hM p hp z)
  obtain ⟨⟨h1, h2, h3, h4⟩, ⟨h5, h6, h7⟩, h8, h9, h10⟩ := y
  have e : ∀ p, ¬ p = 11 → M2 p = M' p := fun p hp => (hM2 p).trans (if_neg hp)
  refine ⟨⟨fun c k p g => (h1 c k p g).trans (e p (by unfold Gp at g; omega)), fun q hq => ?_, fun q hq hQ => ?_, fun i hi => ?_⟩, ⟨h5.trans (e 4 (by decide)), ?_, ?_⟩, ?_, fun x hx hb => ?_, fun x hx => ?_⟩
  · have w := h2 q hq
    rw [e _ (by omega)] at w
    exact w
  · have w := h3 q hq (by rw [e 1 (by decide)]; exact hQ)
    rw [e _ (by omega)] at w
    exact w
  · rw [h4 i hi, e _ (by omega)]
  · rw [e 4 (by decide)] at h6
    exact h6
  · rw [e 4 (by decide)] at h7
    exact h7
  · rw [e 10 (by decide)] at h8
    exact h8
  · have w := h9 x hx (by rw [e 9 (by decide)]; exact hb)
    rw [e _ (by omega), e _ (by omega), e _ (by omega)] at w
    exact w
  · have w := h10 x hx
    rw [e _ (by omega), e _ (by omega), e _ (by omega)] at w
    exact w
theorem fg_days {s t s' t' : Sg} {K K' : Int} {L L2 : Nat} (r : (t.1 0 35).toInt ≤ 3) (F : FgR K s t) (hK : K ≤ K') (fc : Fr cC L s s') (hL : L &&& MGU = 0) (f : Fr cdM L2 t t') (e : L2 &&& MGV = 0) (P : PrgR s' (t'.1 1)) : FgR K' s' t' := by
  have lo : ∀ p, p < 110 → ¬ p = 11 → t'.1 1 p = t.1 1 p := fun p hp h11 => by
    by_cases z : p < 13
    · exact fr_e f 1 p (60 + p) (cd_lo z) (and_b e (mgv_l p z h11))
    · exact fr_e f 1 p 1 (cd_mi (by omega) hp) (and_b e (by decide))
  exact ⟨⟨grx_11 F.1.1 hK (fun c hc => gc_f fc (by omega) (and_b hL (mgu_b c (by omega) (Or.inl (by omega))))) lo, P⟩, mg_k r F.2 hK (fun c hc => gc_f fc (by omega) (and_b hL (mgu_b c (by omega) (Or.inr hc)))) (fun p h1 h2 => fr_e f 1 p 101 (cd_mk h1 h2) (and_b e (by decide))) (fr_e f 0 35 55 rfl (and_b e (by decide)))⟩
/-! the tallies of the life lived latest -/
def LvS (s t : Sg) : Prop := s.1 4 1 = t.1 0 34 ∧ (t.1 0 34 = 0 ∨ (t.1 0 34 = 1 ∧ s.1 4 4 = t.1 12 0 ∧ s.1 4 5 = t.1 12 1 ∧ s.1 4 6 = t.1 12 2 ∧ s.1 4 7 = t.1 12 3 ∧ s.1 4 8 = t.1 12 4))
theorem lvs_x {s t s' t' : Sg} (h : LvS s t) (c4 : s'.1 4 = s.1 4) (c12 : t'.1 12 = t.1 12) (c34 : t'.1 0 34 = t.1 0 34) : LvS s' t' := by
  unfold LvS
  rw [c4, c12, c34]
  exact h
theorem lvs_f {s t s' t' : Sg} {L L2 : Nat} (h : LvS s t) (f : Fr cC L s s') (a : L.testBit 4 = false) (g : Fr cdM L2 t t') (b : L2.testBit 12 = false) (c : L2.testBit 54 = false) : LvS s' t' := lvs_x h (funext fun k => fr_e f 4 k 4 rfl a) (funext fun k => fr_e g 12 k 12 rfl b) (fr_e g 0 34 54 rfl c)
theorem lvs_t {s t s' t' : Sg} (h : LvS s t) (k : LvT s t s' t') : LvS s' t' := by
  rcases k with ⟨k1, k2, k3⟩ | ⟨k1, k2, k3⟩
  · exact lvs_x h k1 k2 k3
  · exact ⟨k1.trans k2.symm, Or.inr ⟨k2, k3⟩⟩
/-! a street's grains are between 0 and 999: printed by genk.py -/
def Gs (s : Sg) : Prop := ∀ k, k < 8 → (0 ≤ (s.1 67 k).toInt ∧ (s.1 67 k).toInt ≤ 999) ∧ (0 ≤ (s.1 68 k).toInt ∧ (s.1 68 k).toInt ≤ 999) ∧ s.1 69 k = 0
abbrev MGS : Nat := 2037035976334486086268445688409378161051468393665936250636140449354380266745668578448506879
theorem mgs_b {L : Nat} (hL : L &&& MGS = L) : L.testBit 67 = false ∧ L.testBit 68 = false ∧ L.testBit 69 = false := by
  have x : ∀ b, MGS.testBit b = false → L.testBit b = false := fun b hb => by
    rw [← hL, Nat.testBit_and, hb, Bool.and_false]
  exact ⟨x 67 (by decide), x 68 (by decide), x 69 (by decide)⟩
theorem gs_t {s s' : Sg} {L : Nat} (h : Gs s) (f : Fr cC L s s') (hL : L &&& MGS = L) : Gs s' := fun k hk => by
  have b := mgs_b hL
  rw [fr_e f 67 k 67 rfl b.1, fr_e f 68 k 68 rfl b.2.1, fr_e f 69 k 69 rfl b.2.2]
  exact h k hk
theorem gs_i {s : Sg} {c k : Nat} {v : Int32} (h : Gs s) (m : Nat) (hm : cC c k = m) (hL : MGS.testBit m = true) : Gs (pI s c k v) := gs_t h (fr_x m hm) (m_and hL)
theorem wg_0 (a : Int32) (s : Sg) : PQ (f_X7_wrong a s) (fun r _ => r = 0) := by
  unfold f_X7_wrong
  exact pq_if (fun _ => pq_n (fun _ _ => pq_s rfl)) (fun _ => pq_n (fun _ _ => pq_s rfl))
theorem pn_b (a1 a2 : Int32) (s : Sg) : PQ (f_X7_passNumber a1 a2 s) (fun r s' => ¬ r = 0 → a1.toInt ≤ (s'.1 7 7).toInt ∧ (s'.1 7 7).toInt ≤ a2.toInt) := by
  unfold f_X7_passNumber
  refine pq_if (fun _ => pq_b (wi_p (s.1 7 5) a1 a2 s) (fun r1 s2 g => ?_)) (fun _ => pq_b (P := fun r _ => r = 0) ?_ (fun r7 s8 k => pq_c (fun _ => pq_s (fun z => absurd k z))))
  · obtain ⟨es, g⟩ := g
    subst es
    refine pq_if (fun _ => pq_b (P := fun r _ => r = 0) ?_ (fun r3 s4 k => pq_c (fun _ => pq_s (fun z => absurd k z)))) (fun c => pq_b (ft_X7_advance _) (fun _ s6 f6 => pq_s (fun _ => ?_)))
    · exact wg_0 4 _
    · rw [fr_e f6 7 7 187 rfl rfl, q_eq]
      exact r1_y g c
  · exact wg_0 2 _
theorem gs_X6_takeGrains_67 (a1 a3 : Int32) {s : Sg} (h : Gs s) : PQ (f_X6_takeGrains_67 a1 a3 s) (fun _ s9 => Gs s9) := by
  have e0 : (0 : Int32).toInt = 0 := rfl
  have e999 : (999 : Int32).toInt = 999 := rfl
  unfold f_X6_takeGrains_67
  refine pq_if (fun _ => pq_b (ft_X7_advance s) (fun _ s2 f2 => pq_b (pq_and (ft_X7_passNumber 0 999 s2) (pn_b 0 999 s2)) (fun r3 s4 g => pq_if (fun _ => pq_s (gs_t (gs_t h f2 rfl) g.1 rfl)) (fun c => pq_c (fun _ => pq_n (fun s6 e6 => pq_s ?_)))))) (fun _ => pq_s h)
  have J := gs_t (gs_t h f2 rfl) g.1 rfl
  have b := g.2 c
  rw [e6]
  intro k hk
  rw [pI_1, pI_1, pI_1]
  by_cases z : k = a3.toNatClampNeg
  · rw [if_pos ⟨rfl, z⟩, if_neg (fun y => absurd y.1 (by decide)), if_neg (fun y => absurd y.1 (by decide))]
    exact ⟨⟨by omega, by omega⟩, (J k hk).2⟩
  · rw [if_neg (fun y => z y.2), if_neg (fun y => z y.2), if_neg (fun y => z y.2)]
    exact J k hk
theorem gs_X6_takeGrains_68 (a1 a3 : Int32) {s : Sg} (h : Gs s) : PQ (f_X6_takeGrains_68 a1 a3 s) (fun _ s9 => Gs s9) := by
  have e0 : (0 : Int32).toInt = 0 := rfl
  have e999 : (999 : Int32).toInt = 999 := rfl
  unfold f_X6_takeGrains_68
  refine pq_if (fun _ => pq_b (ft_X7_advance s) (fun _ s2 f2 => pq_b (pq_and (ft_X7_passNumber 0 999 s2) (pn_b 0 999 s2)) (fun r3 s4 g => pq_if (fun _ => pq_s (gs_t (gs_t h f2 rfl) g.1 rfl)) (fun c => pq_c (fun _ => pq_n (fun s6 e6 => pq_s ?_)))))) (fun _ => pq_s h)
  have J := gs_t (gs_t h f2 rfl) g.1 rfl
  have b := g.2 c
  rw [e6]
  intro k hk
  rw [pI_1, pI_1, pI_1]
  by_cases z : k = a3.toNatClampNeg
  · rw [if_neg (fun y => absurd y.1 (by decide)), if_pos ⟨rfl, z⟩, if_neg (fun y => absurd y.1 (by decide))]
    exact ⟨(J k hk).1, ⟨by omega, by omega⟩, (J k hk).2.2⟩
  · rw [if_neg (fun y => z y.2), if_neg (fun y => z y.2), if_neg (fun y => z y.2)]
    exact J k hk
theorem gs_X6_takeHouse_b64 (v1 : Int32) (t0 : Int32) (s : Sg) (hJ : Gs s) : PQ (f_X6_takeHouse_b64 v1 t0 s) (fun _ s9 => Gs s9) := by
  unfold f_X6_takeHouse_b64
  refine pq_b ((gs_X6_takeGrains_67 _ _ hJ)) (fun _ s4 gs4 => ?_)
  refine pq_if (fun _ => ?_) (fun _ => ?_)
  · exact pq_s gs4
  · refine pq_b ((gs_X6_takeGrains_68 _ _ gs4)) (fun _ s6 gs6 => ?_)
    refine pq_if (fun _ => ?_) (fun _ => ?_)
    · exact pq_s gs6
    · refine pq_if (fun _ => ?_) (fun _ => ?_)
      · refine pq_if (fun _ => ?_) (fun _ => ?_)
        · refine pq_n (fun s7 es7 => ?_)
          have js7 : Gs s7 := by rw [es7]; exact (gs_i gs6 207 rfl rfl)
          refine pq_b (ft_X7_advance  _) (fun _ s9 gs9 => ?_)
          have js9 := gs_t js7 gs9 rfl
          refine pq_b (ft_X7_pass _ _) (fun _ s11 gs11 => ?_)
          have js11 := gs_t js9 gs11 rfl
          refine pq_c (fun _ => ?_)
          exact pq_s js11
        · refine pq_b (ft_X7_wrong _ _) (fun _ s13 gs13 => ?_)
          have js13 := gs_t gs6 gs13 rfl
          refine pq_c (fun _ => ?_)
          exact pq_s js13
      · refine pq_b (ft_X7_pass _ _) (fun _ s15 gs15 => ?_)
        have js15 := gs_t gs6 gs15 rfl
        refine pq_c (fun _ => ?_)
        exact pq_s js15
theorem gs_X6_takeHouse_b59 (v1 : Int32) (s : Sg) (hJ : Gs s) : PQ (f_X6_takeHouse_b59 v1 s) (fun _ s9 => Gs s9) := by
  unfold f_X6_takeHouse_b59
  exact gs_X6_takeHouse_b64 _ _ _ hJ
theorem gs_X6_takeHouse  {s : Sg} (hJ : Gs s) : PQ (f_X6_takeHouse  s) (fun _ s9 => Gs s9) := by
  unfold f_X6_takeHouse
  refine pq_b (ft_X6_takeNew _ _ _ _) (fun _ s2 gs2 => ?_)
  have js2 := gs_t hJ gs2 rfl
  refine pq_if (fun _ => ?_) (fun _ => ?_)
  · exact pq_s js2
  · refine pq_if (fun _ => ?_) (fun _ => ?_)
    · exact gs_X6_takeHouse_b59 _ _ (gs_i js2 203 rfl rfl)
    · refine pq_if (fun _ => ?_) (fun _ => ?_)
      · exact gs_X6_takeHouse_b59 _ _ (gs_i js2 203 rfl rfl)
      · exact gs_X6_takeHouse_b64 _ _ _ (gs_i js2 203 rfl rfl)
theorem gs_X6_takeText_b21 (n : Nat) : ∀ (v1 : Int32) (v2 : Int32) (s : Sg), Gs s → PQ (f_X6_takeText_b21 n v1 v2 s) (fun _ s9 => Gs s9) := by
  induction n with
  | zero => intro v1 v2 s _ r s9 e; cases e
  | succ n ih =>
    intro v1 v2 s hJ
    unfold f_X6_takeText_b21
    refine pq_if (fun _ => ?_) (fun _ => ?_)
    · refine pq_c (fun _ => ?_)
      exact pq_s hJ
    · refine pq_if (fun _ => ?_) (fun _ => ?_)
      · refine pq_c (fun _ => ?_)
        exact pq_s hJ
      · refine pq_if (fun _ => ?_) (fun _ => ?_)
        · refine pq_c (fun _ => ?_)
          exact pq_s hJ
        · refine pq_if (fun _ => ?_) (fun _ => ?_)
          · refine pq_b ((gs_X6_takeHouse  hJ)) (fun _ s4 gs4 => ?_)
            exact ih _ _ _ gs4
          · refine pq_if (fun _ => ?_) (fun _ => ?_)
            · refine pq_b (ft_X7_wrong _ _) (fun _ s6 gs6 => ?_)
              have js6 := gs_t hJ gs6 rfl
              exact ih _ _ _ js6
            · refine pq_if (fun _ => ?_) (fun _ => ?_)
              · refine pq_b (ft_X7_wrong _ _) (fun _ s8 gs8 => ?_)
                have js8 := gs_t hJ gs8 rfl
                exact ih _ _ _ js8
              · refine pq_if (fun _ => ?_) (fun _ => ?_)
                · refine pq_b (ft_X6_takeCounts  _) (fun _ s10 gs10 => ?_)
                  have js10 := gs_t hJ gs10 rfl
                  exact ih _ _ _ js10
                · refine pq_if (fun _ => ?_) (fun _ => ?_)
                  · refine pq_b (ft_X6_takeQuarrel  _) (fun _ s12 gs12 => ?_)
                    have js12 := gs_t hJ gs12 rfl
                    exact ih _ _ _ js12
                  · refine pq_if (fun _ => ?_) (fun _ => ?_)
                    · refine pq_b (ft_X7_wrong _ _) (fun _ s14 gs14 => ?_)
                      have js14 := gs_t hJ gs14 rfl
                      exact ih _ _ _ js14
                    · refine pq_if (fun _ => ?_) (fun _ => ?_)
                      · refine pq_b (ft_X7_wrong _ _) (fun _ s16 gs16 => ?_)
                        have js16 := gs_t hJ gs16 rfl
                        exact ih _ _ _ js16
                      · refine pq_if (fun _ => ?_) (fun _ => ?_)
                        · refine pq_b (ft_X7_wrong _ _) (fun _ s18 gs18 => ?_)
                          have js18 := gs_t hJ gs18 rfl
                          exact ih _ _ _ js18
                        · refine pq_if (fun _ => ?_) (fun _ => ?_)
                          · refine pq_b (ft_X6_takeCat  _) (fun _ s20 gs20 => ?_)
                            have js20 := gs_t hJ gs20 rfl
                            exact ih _ _ _ js20
                          · refine pq_if (fun _ => ?_) (fun _ => ?_)
                            · refine pq_b (ft_X7_wrong _ _) (fun _ s22 gs22 => ?_)
                              have js22 := gs_t hJ gs22 rfl
                              exact ih _ _ _ js22
                            · refine pq_if (fun _ => ?_) (fun _ => ?_)
                              · refine pq_b (ft_X7_wrong _ _) (fun _ s24 gs24 => ?_)
                                have js24 := gs_t hJ gs24 rfl
                                exact ih _ _ _ js24
                              · refine pq_if (fun _ => ?_) (fun _ => ?_)
                                · refine pq_b (ft_X7_wrong _ _) (fun _ s26 gs26 => ?_)
                                  have js26 := gs_t hJ gs26 rfl
                                  exact ih _ _ _ js26
                                · refine pq_if (fun _ => ?_) (fun _ => ?_)
                                  · refine pq_b (ft_X6_takeGrocer  _) (fun _ s28 gs28 => ?_)
                                    have js28 := gs_t hJ gs28 rfl
                                    exact ih _ _ _ js28
                                  · refine pq_if (fun _ => ?_) (fun _ => ?_)
                                    · refine pq_b (ft_X7_wrong _ _) (fun _ s30 gs30 => ?_)
                                      have js30 := gs_t hJ gs30 rfl
                                      exact ih _ _ _ js30
                                    · refine pq_if (fun _ => ?_) (fun _ => ?_)
                                      · refine pq_b (ft_X7_wrong _ _) (fun _ s32 gs32 => ?_)
                                        have js32 := gs_t hJ gs32 rfl
                                        exact ih _ _ _ js32
                                      · refine pq_if (fun _ => ?_) (fun _ => ?_)
                                        · refine pq_b (ft_X7_wrong _ _) (fun _ s34 gs34 => ?_)
                                          have js34 := gs_t hJ gs34 rfl
                                          exact ih _ _ _ js34
                                        · refine pq_if (fun _ => ?_) (fun _ => ?_)
                                          · refine pq_b (ft_X6_takeWashes  _) (fun _ s36 gs36 => ?_)
                                            have js36 := gs_t hJ gs36 rfl
                                            exact ih _ _ _ js36
                                          · refine pq_b (ft_X7_wrong _ _) (fun _ s38 gs38 => ?_)
                                            have js38 := gs_t hJ gs38 rfl
                                            exact ih _ _ _ js38
/-- a street that is taken has its grains so -/
theorem gs_street (a1 : Int32) (s : Sg) : PQ (f_X11_street a1 s) (fun _ s9 => s9.1 0 15 = 0 → ∀ k, k < 8 → (0 ≤ (s9.1 40 k).toInt ∧ (s9.1 40 k).toInt ≤ 999) ∧ (0 ≤ (s9.1 41 k).toInt ∧ (s9.1 41 k).toInt ≤ 999) ∧ s9.1 42 k = 0) := by
  unfold f_X11_street
  refine pq_b (wi_p a1 0 (s.1 0 13) s) (fun r1 s2 g => ?_)
  have rf : ∀ (w : Int32) (u : Sg), ¬ w = 0 → PQ (bd (f_X11_refuse w u) (fun r s => some (r, s))) (fun _ s9 => s9.1 0 15 = 0 → ∀ k, k < 8 → (0 ≤ (s9.1 40 k).toInt ∧ (s9.1 40 k).toInt ≤ 999) ∧ (0 ≤ (s9.1 41 k).toInt ∧ (s9.1 41 k).toInt ≤ 999) ∧ s9.1 42 k = 0) := fun w u hw => by
    have q : PQ (some ((-1 : Int32), pI u 0 15 w)) (fun _ s9 => s9.1 0 15 = 0 → ∀ k, k < 8 → (0 ≤ (s9.1 40 k).toInt ∧ (s9.1 40 k).toInt ≤ 999) ∧ (0 ≤ (s9.1 41 k).toInt ∧ (s9.1 41 k).toInt ≤ 999) ∧ s9.1 42 k = 0) := pq_s (fun z => absurd z (by rw [q_eq]; exact hw))
    exact q
  refine pq_if (fun _ => rf 1 s2 (by decide)) (fun _ => pq_b (ft_X7_begin a1 s2) (fun _ s6 f6 => pq_b (P := fun _ s8 => Gs s8) ?_ (fun r7 s8 z8 => pq_b (ct_x s8) (fun _ s10 e10 => pq_if (fun _ => rf 9 s10 (by decide)) (fun _ => pq_b (cw_X10_copyFrom_51 s10) (fun _ s14 w => ?_))))))
  · unfold f_X6_takeText
    refine pq_b (clr_51 s6) (fun _ s2 c => gs_X6_takeText_b21 BIG 1 0 _ (fun k hk => ?_))
    have e0 : (0 : Int32).toInt = 0 := rfl
    rw [q_nc rfl, q_nc rfl, q_nc rfl, q_nc rfl, q_nc rfl, q_nc rfl, c.2.1.1.1 k hk, c.2.1.1.2.1 k hk, c.2.1.1.2.2.1 k hk, e0]
    decide
  · have q : PQ (some (s14.1 25 14, pI s14 0 15 0)) (fun _ s9 => s9.1 0 15 = 0 → ∀ k, k < 8 → (0 ≤ (s9.1 40 k).toInt ∧ (s9.1 40 k).toInt ≤ 999) ∧ (0 ≤ (s9.1 41 k).toInt ∧ (s9.1 41 k).toInt ≤ 999) ∧ s9.1 42 k = 0) := pq_s (fun _ k hk => by
      have a : s14.1 40 k = s10.1 67 k := w.2.1 16 k (by decide) (by decide) (Nat.zero_le _) hk
      have b : s14.1 41 k = s10.1 68 k := w.2.1 17 k (by decide) (by decide) (Nat.zero_le _) hk
      have d : s14.1 42 k = s10.1 69 k := w.2.1 18 k (by decide) (by decide) (Nat.zero_le _) hk
      rw [q_nc rfl, q_nc rfl, q_nc rfl, a, b, d, e10, q_nc rfl, q_nc rfl, q_nc rfl, q_nc rfl, q_nc rfl, q_nc rfl, q_nc rfl, q_nc rfl, q_nc rfl]
      exact z8 k hk)
    exact q
/-! days that are not taken leave the program alone, on both sides -/
def KdC (s s9 : Sg) : Prop := s9.1 0 15 = 0 ∨ ∀ c, (c = 27 ∨ (45 ≤ c ∧ c ≤ 50)) → s9.1 c = s.1 c
theorem kd_c {L : Nat} {s s9 : Sg} (f : Fr cC L s s9) (e : L &&& MGD = 0) : ∀ c, (c = 27 ∨ (45 ≤ c ∧ c ≤ 50)) → s9.1 c = s.1 c := (gmc_d f e).2
theorem kd_days (a1 : Int32) (s : Sg) : PQ (f_X11_days a1 s) (fun _ s9 => KdC s s9) := by
  unfold f_X11_days
  refine pq_b (wi_p a1 0 (s.1 0 13) s) (fun r1 s2 g => ?_)
  obtain ⟨es, -⟩ := g
  subst es
  have rf : ∀ (w : Int32) (u : Sg), (∀ c, (c = 27 ∨ (45 ≤ c ∧ c ≤ 50)) → u.1 c = s2.1 c) → PQ (bd (f_X11_refuse w u) (fun r s => some (r, s))) (fun _ s9 => KdC s2 s9) := fun w u hu => by
    have q : PQ (some ((-1 : Int32), pI u 0 15 w)) (fun _ s9 => KdC s2 s9) := pq_s (Or.inr (fun c hc => by rw [pI_o _ _ _ _ _ (by omega)]; exact hu c hc))
    exact q
  refine pq_if (fun _ => rf 1 s2 (fun _ _ => rfl)) (fun _ => pq_if (fun _ => pq_b (ft_X7_begin a1 s2) (fun _ s6 f6 => pq_b (ft_X1_takeText s6) (fun r7 s8 f8 => pq_b (ct_x s8) (fun _ s10 e10 => pq_if (fun _ => rf 9 s10 (fun c hc => ?_)) (fun _ => pq_b pq_tr (fun _ s14 _ => ?_)))))) (fun _ => rf 1 s2 (fun _ _ => rfl)))
  · rw [e10, pI_o _ _ _ _ _ (by omega), pI_o _ _ _ _ _ (by omega), pI_o _ _ _ _ _ (by omega), kd_c f8 rfl c hc, kd_c f6 rfl c hc]
  · have q : PQ (some (s14.1 27 8, pI s14 0 15 0)) (fun _ s9 => KdC s2 s9) := pq_s (Or.inl q_eq)
    exact q
def KdM (s s9 : Sg) : Prop := s9.1 0 2 = 0 ∨ ∀ p, p < 480 → s9.1 1 p = s.1 1 p
def Kd4 (s s9 : Sg) : Prop := ∀ p, p < 480 → s9.1 1 p = s.1 1 p
theorem kdm_tk {s s9 : Sg} (h : Kd4 s s9) (hz : ¬ s9.1 0 18 = 0) (hp : 0 ≤ (s9.1 0 18).toInt) (a : Int32) : PQ (bd (f_X12_taken a s9) (fun r s => some (r, s))) (fun _ s9 => KdM s s9) := by
  refine pq_b (taken_p a s9) (fun r u g => pq_s (Or.inr (fun p hp2 => ?_)))
  rcases g with g | g
  · exfalso
    refine hz (Int32.toInt_inj.mp ?_)
    have e0 : (0 : Int32).toInt = 0 := rfl
    omega
  · rw [g.2.2, q_nc rfl, q_nc rfl]
    exact h p hp2
theorem kdm_77 {s s9 : Sg} (h : Kd4 s s9) (hp : 0 ≤ (s9.1 0 18).toInt) : PQ (f_X12_days_b77 s9) (fun _ u => KdM s u) := by
  unfold f_X12_days_b77
  refine pq_if (fun hz => ?_) (fun hz => kdm_tk h hz hp _)
  have z18 : (pI s9 1 11 (s9.1 1 1931)).1 0 18 = 0 := by rw [q_nc rfl]; exact hz
  refine pq_w (cpd_d _ z18 BIG 110 110 _ rfl (by decide) (by decide) ⟨fun _ _ => rfl, rfl, fun p => by rw [if_neg (by omega)]⟩) (fun r u g => Or.inl ?_)
  obtain ⟨t', m, -, e⟩ := g
  rw [e]
  exact q_eq
theorem kdm_57 {s s9 : Sg} (hR : Rg rM s9) (hF : Fvz s9) (h : Kd4 s s9) : PQ (f_X12_days_b57 s9) (fun _ u => KdM s u) := by
  unfold f_X12_days_b57
  refine pq_if (fun _ => pq_if (fun _ => kdm_77 h hF.2) (fun _ => pq_b (pq_and (pq_o (h_X12_fails 2 hR (by decide))) (fv_X12_fails 2 (by decide) hF)) (fun _ s14 g => kdm_77 (fun p hp => ?_) g.2.2))) (fun _ => kdm_77 h hF.2)
  have k : s14.1 1 p = s9.1 1 p := by
    by_cases z : p < 13
    · exact fr_e g.1.1.2 1 p (60 + p) (cd_lo z) ((show ∀ p, p < 13 → Nat.testBit 412316860416 (60 + p) = false from by decide) p z)
    · by_cases y : p < 110
      · exact fr_e g.1.1.2 1 p 1 (cd_mi (by omega) y) rfl
      · exact fr_e g.1.1.2 1 p 100 (cd_ro (by omega) hp) rfl
  rw [k]
  exact h p hp
theorem kdm_38 {s : Sg} (m : Nat) : ∀ (v2 : Int32) (s9 : Sg), Rg rM s9 → Fvz s9 → (v2.toInt = 0 ∨ (0 ≤ (s9.1 1 1931).toInt ∧ (s9.1 1 1931).toInt + (s9.1 0 22).toInt ≤ 2 * (s9.1 0 23).toInt)) → Kd4 s s9 → PQ (f_X12_days_b38 m v2 s9) (fun _ u => KdM s u) := by
  induction m with
  | zero => intro v2 s9 _ _ _ _ r u e; cases e
  | succ m ih =>
    intro v2 s9 hR hF hx h
    have e0 : (0 : Int32).toInt = 0 := rfl
    unfold f_X12_days_b38
    refine pq_if (fun _ => kdm_57 hR hF h) (fun c => pq_if (fun _ => kdm_57 hR hF h) (fun _ => pq_b (pq_and (pq_o (h_X12_dayStep hR (hx.elim (fun z => absurd (Int32.toInt_inj.mp (z.trans e0.symm)) c) id))) (fv_X12_dayStep hF)) (fun r s2 g => ih r s2 g.1.1.1 g.2 (g.1.2.1.2.imp id (fun z => ⟨z.1, z.2.1⟩)) (fun p hp => ?_))))
    have k : s2.1 1 p = s9.1 1 p := by
      by_cases z : p < 13
      · exact fr_e g.1.1.2 1 p (60 + p) (cd_lo z) ((show ∀ p, p < 13 → Nat.testBit 5073078280991488380207491973376 (60 + p) = false from by decide) p z)
      · by_cases y : p < 110
        · exact fr_e g.1.1.2 1 p 1 (cd_mi (by omega) y) rfl
        · exact fr_e g.1.1.2 1 p 100 (cd_ro (by omega) hp) rfl
    rw [k]
    exact h p hp
theorem kdm_days (a1 : Int32) {s : Sg} (hR : Rg rM s) : PQ (f_X12_days a1 s) (fun _ u => KdM s u) := by
  unfold f_X12_days
  refine pq_b (pq_and (pq_o (h_X12_begins a1 300 hR (by decide))) (bgm_p a1 300 s)) (fun r s2 g => ?_)
  have k : Kd4 s s2 := fun p hp => by
    by_cases z : p < 13
    · exact fr_e g.1.1.2 1 p (60 + p) (cd_lo z) ((show ∀ p, p < 13 → Nat.testBit 1029718409344 (60 + p) = false from by decide) p z)
    · by_cases y : p < 110
      · exact fr_e g.1.1.2 1 p 1 (cd_mi (by omega) y) rfl
      · exact fr_e g.1.1.2 1 p 100 (cd_ro (by omega) hp) rfl
  refine pq_if (fun _ => ?_) (fun c => pq_n (fun s5 e5 => ?_))
  · have q : PQ (some ((-1 : Int32), pI s2 0 2 1)) (fun _ u => KdM s u) := pq_s (Or.inr (fun p hp => by rw [q_nc rfl]; exact k p hp))
    exact q
  · have e0 : (0 : Int32).toInt = 0 := rfl
    have js5 : JM 6340728883580901023760718496128 s2 s5 := by
      rw [e5]
      exact j_wr 0 30 (j_wr 0 3 (j_wr (-1) 60 (j_refl g.1.1.1) rfl 91 rfl rfl (by omega)) rfl 42 rfl rfl (by omega)) rfl 43 rfl rfl (by omega)
    have hF : Fvz s2 := g.2.elim (fun z => absurd z.1 c) (fun z => z.2)
    refine kdm_38 BIG 1 s5 js5.1 ?_ (Or.inr ?_) (fun p hp => ?_)
    · rw [e5]
      exact fv_i (fv_i (fv_i hF 1 rfl rfl) 42 rfl rfl) 43 rfl rfl
    · have a : s5.1 1 1931 = 0 := by rw [e5, q_nc rfl, q_nc rfl, q_eq]
      have b : s5.1 0 22 = 0 := by rw [e5, q_ne rfl, q_eq]
      have c : s5.1 0 23 = 0 := by rw [e5, q_eq]
      rw [a, b, c, e0]
      decide
    · rw [e5, q_nc rfl, q_nc rfl, pI_1, if_neg (fun z => by have := z.2; omega)]
      exact k p hp
theorem prg_days {s t s' t' : Sg} {K : Int} (F : FgR K s t) (kc : KdC s s') (km : KdM t t') (es : s'.1 0 15 = t'.1 0 2) (dp : s'.1 0 15 = 0 → DayP s' t') : PrgR s' (t'.1 1) := by
  by_cases z : s'.1 0 15 = 0
  · exact (dp z).2.2
  · have c := kc.elim (fun y => absurd y z) id
    have m := km.elim (fun y => absurd (es.trans y) z) id
    exact prw_0.mp (prw_x F.1.2 (fun i k hi _ _ => by rw [c (24 + 0 + i) (by omega)]) (fun p hp => m p (by
      rcases hp with y | y | y
      · omega
      · have := (plp_lt y).1
        omega
      · omega)))
