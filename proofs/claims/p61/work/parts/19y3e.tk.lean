/-! truce on both sides; the test of an IF -/
/-- a grain at a house, or as much as it needs -/
def smB (M : Nat → Int32) (q h : Nat) (g : Int32) : Bool := if bt (M 9) h = true then decide (M 14 = 1) else decide (0 < (lf M (-1) h g q).toInt)
def tcB (M : Nat → Int32) (q : Nat) : Bool := smB M q (h0 M q) (sgM M (h0 M q)) && smB M q (h1 M q) (sgM M (h1 M q))
theorem nd_m1 (M : Nat → Int32) (q : Nat) : nd M (-1) q = M (42 + 5 * q) := by
  unfold nd
  rw [if_neg (by omega)]
theorem hs_pos (M : Nat → Int32) (q h : Nat) (hN : 1 ≤ (M (42 + 5 * q)).toInt) : (hsM M (-1) q h ≤ 0) ↔ ¬ 0 < (lf M (-1) h (sgM M h) q).toInt := by
  have e0 : (0 : Int32).toInt = 0 := rfl
  unfold hsM
  rw [nd_m1]
  by_cases c : M (42 + 5 * q) < lf M (-1) h (sgM M h) q
  · rw [if_pos c]
    have c := i_lt c
    constructor
    · intro w
      have w := i_le w
      omega
    · intro w
      exact absurd (show 0 < (lf M (-1) h (sgM M h) q).toInt by omega) w
  · rw [if_neg c]
    constructor
    · intro w
      have w := i_le w
      omega
    · intro w
      exact Int32.le_iff_toInt_le.mpr (by omega)
theorem some_m {a b : Int32} {q j : Nat} (ha : a.toInt = (q : Int)) (hq : q < 8) (hj : (b = 0 ∧ j = 40 + 5 * q) ∨ (b = 1 ∧ j = 41 + 5 * q)) (t : Sg) (h24 : t.1 0 24 = -1) (hN : 1 ≤ (t.1 1 (42 + 5 * q)).toInt) (hb : 0 ≤ (t.1 1 j).toInt ∧ (t.1 1 j).toInt < 8) : PQ (f_X12_isSome a b t) (fun r t' => t' = t ∧ Fl (smB (t.1 1) q (t.1 1 j).toInt.toNat (sgM (t.1 1) (t.1 1 j).toInt.toNat) = true) r) := by
  have x := qr_x ha hq
  have hn : (t.1 1 j).toInt = ((t.1 1 j).toInt.toNat : Int) := by omega
  have h8 : (t.1 1 j).toInt.toNat < 8 := by omega
  have e24 : (t.1 0 24).toInt = -1 := by rw [h24]; rfl
  unfold f_X12_isSome
  refine pq_b (qh_p a b t) (fun r1 t2 k => pq_c (fun _ => ?_))
  obtain ⟨et, k⟩ := k
  subst et
  have dj : r1.toNatClampNeg = j := by
    rw [k]
    rcases hj with w | w
    · rw [w.1, w.2]; exact x.1
    · rw [w.1, w.2]; exact x.2.1
  rw [dj]
  refine pq_b (gone_m hn (by omega) t2) (fun r4 t5 g => ?_)
  obtain ⟨et, g⟩ := g
  subst et
  unfold smB
  refine pq_if (fun c => pq_b (has_m ha hq hn h8 t5) (fun r6 t7 l => ?_)) (fun c => ?_)
  · obtain ⟨et, l⟩ := l
    subst et
    rw [e24] at l
    have hp := hs_pos (t7.1 1) q (t7.1 1 j).toInt.toNat hN
    rw [← l] at hp
    rw [if_neg (r1_n g c)]
    exact pq_f0 ⟨fun w z => hp.mp w (of_decide_eq_true z), fun w => hp.mpr (fun z => w (decide_eq_true z))⟩
  · rw [if_pos (r1_y g c)]
    exact pq_fl ⟨fun w => decide_eq_true w, fun w => of_decide_eq_true w⟩
theorem soh_1 {s t : Sg} (P : PlnR 24 s (t.1 1)) (B : PlB (t.1 1)) (h24 : t.1 0 24 = -1) : SoH t 1 (fun q => tcB (t.1 1) q = true) := fun k v2 v3 q Q h3 hq hk => by
  unfold SoB
  rw [if_neg (by decide), if_pos rfl]
  have en := ends_h P hq
  have q8 := en.2.2.2.2
  have E := (pln_q P hq).2.2.1
  have N := (B.1 q hq).1
  refine pq_b (some_m h3 q8 (Or.inl ⟨rfl, rfl⟩) t h24 N E.1) (fun r t2 g => ?_)
  obtain ⟨et, g⟩ := g
  subst et
  refine pq_if (fun c => ?_) (fun c => pq_b (some_m h3 q8 (Or.inr ⟨rfl, rfl⟩) t2 h24 N E.2) (fun r6 t7 f => ?_))
  · unfold f_X12_setOf_b53
    exact so_90 h3 (by omega) (Or.inr ⟨rfl, fun w => r1_n g c (Bool.and_eq_true_iff.mp w).1⟩) hk
  · obtain ⟨et, f⟩ := f
    subst et
    refine pq_if (fun d => ?_) (fun d => so_90 h3 (by omega) (Or.inl ⟨rfl, Bool.and_eq_true_iff.mpr ⟨r1_y g c, r1_y f d⟩⟩) hk)
    unfold f_X12_setOf_b53
    exact so_90 h3 (by omega) (Or.inr ⟨rfl, fun w => r1_n f d (Bool.and_eq_true_iff.mp w).2⟩) hk
/-! truce, as the class has it -/
theorem lf_np {M : Nat → Int32} (B : PlB M) (h : Nat) (g : Int32) {i : Nat} (hi : (lf M (-1) h g i).toInt ≤ 0) : ∀ k : Nat, (i : Int) + (k : Int) ≤ (M 1).toInt → (lf M (-1) h g (i + k)).toInt ≤ 0
  | 0, _ => hi
  | k + 1, hk => by
    have ih := lf_np B h g hi k (by omega)
    have n := (B.1 (i + k) (by omega)).1
    rw [show i + (k + 1) = (i + k) + 1 from rfl, lf_s, nd_m1]
    by_cases c : atB M (i + k) h = true
    · have z : ¬ M (42 + 5 * (i + k)) < lf M (-1) h g (i + k) := fun w => by
        have w := i_lt w
        omega
      rw [if_pos c, if_neg z]
      have := i_sub (lf M (-1) h g (i + k)) (lf M (-1) h g (i + k))
      omega
    · rw [if_neg c]
      exact ih
theorem calm_b {M : Nat → Int32} {s : Sg} (P : PlnR 24 s M) (B : PlB M) {a : Int32} {h : Nat} (ha : a.toInt = (h : Int)) (hh : h < 8) (g : Int32) (m : Nat) : ∀ (i : Nat) (v3 v4 v5 : Int32), v5.toInt = (i : Int) → i ≤ 8 → (i : Int) ≤ (M 1).toInt → (0 < v4.toInt → v4 = lf M (-1) h g i) → (v4.toInt ≤ 0 → (lf M (-1) h g i).toInt ≤ 0) → (∀ x, x < 32 → (bt v3 x = true ↔ (x < i ∧ atB M x h = true ∧ 0 < (lf M (-1) h g x).toInt))) → PQ (f_X9_calmAt_25_b34 m a v3 v4 v5 s) (fun r s' => s' = s ∧ ∀ x, x < 32 → (bt r x = true ↔ ((x : Int) < (M 1).toInt ∧ atB M x h = true ∧ 0 < (lf M (-1) h g x).toInt))) := by
  induction m with
  | zero => intro i v3 v4 v5 _ _ _ _ _ _ r s' q; cases q
  | succ m ih =>
    intro i v3 v4 v5 h5 hi hQ hp hn h3
    have e1 : (1 : Int32).toInt = 1 := rfl
    have e0 : (0 : Int32).toInt = 0 := rfl
    have a5 : (v5 + 1).toInt = v5.toInt + 1 := i_addx v5 1 (by omega)
    have eQ : s.1 25 14 = M 1 := P.1.2.1
    unfold f_X9_calmAt_25_b34
    rw [eQ]
    refine pq_if (fun c => pq_s ⟨rfl, fun x hx => ?_⟩) (fun c => pq_if (fun d => pq_s ⟨rfl, fun x hx => ?_⟩) (fun d => ?_))
    · have c := i_le c
      rw [h3 x hx]
      exact ⟨fun w => ⟨by omega, w.2⟩, fun w => ⟨by omega, w.2⟩⟩
    · have c := i_nle c
      have d := i_le d
      rw [h3 x hx]
      refine ⟨fun w => ⟨by omega, w.2⟩, fun w => ⟨?_, w.2⟩⟩
      by_cases z : x < i
      · exact z
      · have y := lf_np B h g (hn (by omega)) (x - i) (by omega)
        rw [show i + (x - i) = x by omega] at y
        have := w.2.2
        omega
    · have c := i_nle c
      have d := i_nle d
      have hi' : (i : Int) < (M 1).toInt := by omega
      have pq := pln_q P hi'
      have lv := hp (by omega)
      have N := B.1 i hi'
      refine pq_b (isAt_c P h5 (by omega) ha hh) (fun r3 s4 k => ?_)
      obtain ⟨es, k⟩ := k
      subst es
      refine pq_if (fun f => ?_) (fun f => pq_n (fun x5 f5 => pq_c (fun _ => pq_n (fun x7 f7 => ?_))))
      · have na : ¬ atB M i h = true := fun z => r1_n k f ⟨hi', z⟩
        refine ih (i + 1) v3 v4 (v5 + 1) (by omega) (by omega) (by omega) (fun z => ?_) (fun z => ?_) (fun x hx => ?_)
        · rw [lf_s, if_neg na]; exact lv
        · omega
        · rw [h3 x hx]
          constructor
          · intro w; exact ⟨by omega, w.2⟩
          · intro w
            by_cases z : x = i
            · subst z
              exact absurd w.2.1 na
            · exact ⟨by omega, w.2⟩
      · have at1 := (r1_y k f).2
        have e7 : x7 = v4 - M (42 + 5 * i) := by rw [f7, cl_h h5, pq.2.1.2.2]
        have s7 : x7.toInt = v4.toInt - (M (42 + 5 * i)).toInt := by
          rw [e7]
          have v4b := Int32.toInt_lt v4
          exact i_subx _ _ (by omega)
        have L : lf M (-1) h g (i + 1) = v4 - (if M (42 + 5 * i) < v4 then M (42 + 5 * i) else v4) := by
          rw [lf_s, if_pos at1, nd_m1, ← lv]
        have vv := i_sub v4 v4
        refine ih (i + 1) x5 x7 (v5 + 1) (by omega) (by omega) (by omega) (fun z => ?_) (fun z => ?_) (fun x hx => ?_)
        · rw [L, if_pos (Int32.lt_iff_toInt_lt.mpr (by omega))]
          exact e7
        · rw [L]
          by_cases y : M (42 + 5 * i) < v4
          · rw [if_pos y, ← e7]; exact z
          · rw [if_neg y]; omega
        · rw [f5, or_bit h5 (by omega), h3 x hx]
          constructor
          · rintro (w | w)
            · exact ⟨by omega, w.2⟩
            · subst w
              exact ⟨by omega, at1, by rw [← lv]; omega⟩
          · intro w
            by_cases z : x = i
            · exact Or.inr z
            · exact Or.inl ⟨by omega, w.2⟩
theorem calm_c {M : Nat → Int32} {s : Sg} (P : PlnR 24 s M) (B : PlB M) {a : Int32} {h : Nat} (ha : a.toInt = (h : Int)) (hh : h < 8) (g : Int32) : PQ (f_X9_calmAt_25 a g s) (fun r s' => s' = s ∧ ∀ x, x < 32 → (bt r x = true ↔ ((x : Int) < (M 1).toInt ∧ atB M x h = true ∧ smB M x h g = true))) := by
  unfold f_X9_calmAt_25
  refine pq_b (gone_c P ha (by omega)) (fun r1 s2 k => ?_)
  obtain ⟨es, k⟩ := k
  subst es
  have e19 : s2.1 25 19 = M 14 := P.2.2.1.2.2
  have b1 := P.2.1.2.1
  refine pq_if (fun c => pq_w (calm_b P B ha hh g BIG 0 0 g 0 rfl (by decide) b1.1 (fun _ => rfl) (fun z => z) (fun x _ => ?_)) (fun r s' w => ⟨w.1, fun x hx => ?_⟩)) (fun c => ?_)
  · rw [bt_0]
    exact ⟨fun z => absurd z (by decide), fun z => absurd z.1 (Nat.not_lt_zero _)⟩
  · rw [w.2 x hx]
    unfold smB
    rw [if_neg (r1_n k c)]
    exact ⟨fun z => ⟨z.1, z.2.1, decide_eq_true z.2.2⟩, fun z => ⟨z.1, z.2.1, of_decide_eq_true z.2.2⟩⟩
  · have gn := r1_y k c
    have fe : ∀ x, smB M x h g = decide (M 14 = 1) := fun x => by
      unfold smB
      rw [if_pos gn]
    refine pq_if (fun d => pq_s ⟨rfl, fun x hx => ?_⟩) (fun d => pq_c (fun _ => pq_s ⟨rfl, fun x hx => ?_⟩))
    · rw [bt_0, fe]
      refine ⟨fun z => absurd z (by decide), fun z => ?_⟩
      have z := of_decide_eq_true z.2.2
      rw [← e19, d] at z
      exact absurd z (by decide)
    · rw [cl_h ha, qa_b P hh, fe]
      have m14 : M 14 = 1 := by
        rcases B.2.2.2.2.2 with z | z
        · exact absurd (e19.trans z) d
        · exact z
      exact ⟨fun z => ⟨z.1, z.2, decide_eq_true m14⟩, fun z => ⟨z.1, z.2.1⟩⟩
theorem tru_b {M : Nat → Int32} {s : Sg} (P : PlnR 24 s M) (B : PlB M) (G : GrdT 0 s M) (m : Nat) : ∀ (i : Nat) (v3 v4 : Int32), v4.toInt = (i : Int) → i ≤ 8 → (i : Int) ≤ (M 0).toInt → (∀ x, x < 32 → (bt v3 x = true ↔ ((x : Int) < (M 1).toInt ∧ ∀ h, h < i → atB M x h = true → smB M x h (sgM M h) = true))) → PQ (f_X9_inTruce_26_25_b7 m v3 v4 s) (fun r s' => s' = s ∧ ∀ x, x < 32 → (bt r x = true ↔ ((x : Int) < (M 1).toInt ∧ ∀ h : Nat, (h : Int) < (M 0).toInt → atB M x h = true → smB M x h (sgM M h) = true))) := by
  induction m with
  | zero => intro i v3 v4 _ _ _ _ r s' q; cases q
  | succ m ih =>
    intro i v3 v4 h4 hi hH h3
    have e1 : (1 : Int32).toInt = 1 := rfl
    have a4 : (v4 + 1).toInt = v4.toInt + 1 := i_addx v4 1 (by omega)
    have e13 : (s.1 25 13).toInt = (M 0).toInt + 0 := P.1.1
    have b0 := P.2.1.1
    unfold f_X9_inTruce_26_25_b7
    refine pq_if (fun c => pq_s ⟨rfl, fun x hx => ?_⟩) (fun c => pq_c (fun _ => ?_))
    · have c := i_le c
      rw [h3 x hx]
      exact ⟨fun w => ⟨w.1, fun h hh => w.2 h (by omega)⟩, fun w => ⟨w.1, fun h hh => w.2 h (by omega)⟩⟩
    · have c := i_nle c
      have hh : i < 8 := by omega
      refine pq_b (sight_c G h4 hh) (fun r4 s5 k => ?_)
      obtain ⟨es, k⟩ := k
      subst es
      refine pq_b (calm_c P B h4 hh r4) (fun r6 s7 l => pq_n (fun x8 e8 => ?_))
      obtain ⟨es, l⟩ := l
      subst es
      refine ih (i + 1) x8 (v4 + 1) (by omega) (by omega) (by omega) (fun x hx => ?_)
      have q34 := qa_b P hh x
      rw [e8, bt_and, bt_or, bt_xor, bt_m1 x hx, cl_h h4]
      have lx := l x hx
      have hx3 := h3 x hx
      rw [k] at lx
      constructor
      · intro w
        obtain ⟨w1, w2⟩ := Bool.and_eq_true_iff.mp w
        refine ⟨(hx3.mp w1).1, fun h hhi hat => ?_⟩
        by_cases z : h = i
        · subst z
          rcases Bool.or_eq_true_iff.mp w2 with y | y
          · rw [q34.mpr ⟨(hx3.mp w1).1, hat⟩] at y
            exact absurd y (by decide)
          · exact (lx.mp y).2.2
        · exact (hx3.mp w1).2 h (by omega) hat
      · intro w
        refine Bool.and_eq_true_iff.mpr ⟨hx3.mpr ⟨w.1, fun h hhi hat => w.2 h (by omega) hat⟩, Bool.or_eq_true_iff.mpr ?_⟩
        by_cases z : atB M x i = true
        · exact Or.inr (lx.mpr ⟨w.1, z, w.2 i (by omega) z⟩)
        · refine Or.inl ?_
          have y : bt (s7.1 34 i) x = false := by
            cases hb : bt (s7.1 34 i) x with
            | false => rfl
            | true => exact absurd (q34.mp hb).2 z
          rw [y]
          rfl
theorem tru_c {M : Nat → Int32} {s : Sg} (P : PlnR 24 s M) (B : PlB M) (G : GrdT 0 s M) : PQ (f_X9_inTruce_26_25 s) (fun r s' => s' = s ∧ ∀ x, x < 32 → (bt r x = true ↔ ((x : Int) < (M 1).toInt ∧ tcB M x = true))) := by
  unfold f_X9_inTruce_26_25
  refine pq_b (allq_c P) (fun r1 s2 k => ?_)
  obtain ⟨es, k⟩ := k
  subst es
  refine pq_w (tru_b P B G BIG 0 r1 0 rfl (by decide) P.2.1.1.1 (fun x hx => ?_)) (fun r s' w => ⟨w.1, fun x hx => ?_⟩)
  · rw [k x hx]
    exact ⟨fun w => ⟨w, fun h hh => absurd hh (Nat.not_lt_zero _)⟩, fun w => w.1⟩
  · rw [w.2 x hx]
    constructor
    · intro y
      have en := ends_h P y.1
      exact ⟨y.1, Bool.and_eq_true_iff.mpr ⟨y.2 _ en.2.2.1.1 (decide_eq_true (Or.inl en.1.1)), y.2 _ en.2.2.1.2 (decide_eq_true (Or.inr en.1.2))⟩⟩
    · intro y
      obtain ⟨y1, y2⟩ := y
      obtain ⟨y2, y3⟩ := Bool.and_eq_true_iff.mp y2
      refine ⟨y1, fun h hh hat => ?_⟩
      rcases (at_h P y1).mp hat with z | z
      · rw [z]; exact y2
      · rw [z]; exact y3
theorem holds_r {s t : Sg} (H : NowG 0 s t) {k : Nat} (hk : k < 60) (a b : Int32) (ha : a.toInt = (k : Int)) (hb : b.toInt = 110 + 6 * (k : Int)) (R : RwR 24 110 s (t.1 1) k) (V : VdR 110 (t.1 1) k) (w : s.1 45 k = 124) : RQ (f_X3_holds_26_27_25 a s) (f_X12_holds b t) (fun r s' r' t' => s' = s ∧ t' = t ∧ r = r') := by
  have hp : ∀ (j : Nat) (bj : Int32), bj.toInt = (j : Int) → j < 6 → (b + bj).toNatClampNeg = 110 + 6 * k + j := fun j bj z1 z2 => by
    have y : (b + bj).toInt = b.toInt + bj.toInt := i_addx _ _ (by omega)
    exact cl_h (by omega)
  have hb0 : b.toNatClampNeg = 110 + 6 * k := cl_h (by omega)
  have b0 := H.1.1.2.1.1
  have b1 := H.1.1.2.1.2.1
  have h24 := H.2.1.2
  unfold f_X3_holds_26_27_25 f_X12_holds
  refine rq_cC (fun _ => rq_cM (fun _ => rq_nM (fun x2 f2 => rq_cM (fun _ => rq_nM (fun x4 f4 => ?_)))))
  rw [hb0] at f2
  rw [hp 1 1 rfl (by decide)] at f4
  rw [cl_h ha]
  obtain ⟨V1, V2, V3, V4, V5, V6, V7⟩ := V
  have no : ∀ {z : Int32}, s.1 45 k = z → ¬ (124 : Int32) = z → False := fun y z => z (w.symm.trans y)
  rcases R with ⟨y, -⟩ | ⟨y, -⟩ | ⟨y, -⟩ | ⟨y, -⟩ | ⟨y, -⟩ | ⟨y, -⟩ | ⟨y, -⟩ | ⟨y, -⟩ | ⟨y, -⟩ | ⟨-, th, R⟩
  · exact (no y (by decide)).elim
  · exact (no y (by decide)).elim
  · exact (no y (by decide)).elim
  · exact (no y (by decide)).elim
  · exact (no y (by decide)).elim
  · exact (no y (by decide)).elim
  · exact (no y (by decide)).elim
  · exact (no y (by decide)).elim
  · exact (no y (by decide)).elim
  have t46 : s.1 46 k = x4 := th.trans f4.symm
  rcases R with ⟨te, m⟩ | ⟨te, m⟩ | ⟨te, tk, nu, m⟩
  · have g2 : x2 = 28 := by rw [f2, show t.1 1 (110 + 6 * k) = 2428 from m]; rfl
    have hv := V3 (Or.inl m)
    rw [show t.1 1 (110 + 6 * k + 1) = x4 from f4.symm] at hv
    have hx : x4.toInt = (x4.toInt.toNat : Int) := by omega
    have q8 : x4.toInt.toNat < 8 := by omega
    rw [show s.1 49 k = 125 from te, if_neg (show ¬ (125 : Int32) = 60 by decide), if_neg (show ¬ (125 : Int32) = 62 by decide), if_pos (show (125 : Int32) = 125 from rfl), g2, if_pos (show (28 : Int32) = 28 from rfl), t46]
    refine rq_bC (hsf_p hx (by omega) s) (fun r s2 g => rq_cC (fun _ => rq_bM (qrow_p x4 t) (fun r5 t6 l => rq_cM (fun _ => ?_))))
    obtain ⟨es, g⟩ := g
    obtain ⟨et, l⟩ := l
    subst es
    subst et
    rw [l, (qr_x hx q8).2.2.2.1]
    have ov := H.1.2.2.2.2 x4.toInt.toNat (by omega)
    refine rq_iM (fun c => rq_s ⟨rfl, rfl, ?_⟩) (fun c => rq_s ⟨rfl, rfl, ?_⟩)
    · exact g.elim (fun y => y.1) (fun y => absurd (ov.trans (decide_eq_true ⟨q8, c⟩)) y.2)
    · exact g.elim (fun y => absurd (of_decide_eq_true (ov.symm.trans y.2)).2 c) (fun y => y.1)
  · have g2 : x2 = 29 := by rw [f2, show t.1 1 (110 + 6 * k) = 2429 from m]; rfl
    have hv := V3 (Or.inr m)
    rw [show t.1 1 (110 + 6 * k + 1) = x4 from f4.symm] at hv
    have hx : x4.toInt = (x4.toInt.toNat : Int) := by omega
    have hq : (x4.toInt.toNat : Int) < (t.1 1 1).toInt := by omega
    have q8 : x4.toInt.toNat < 8 := by omega
    have E := (pln_q H.1.1 hq).2.2.1
    have N := (H.2.2.1.1 x4.toInt.toNat hq).1
    rw [show s.1 49 k = 126 from te, if_neg (show ¬ (126 : Int32) = 60 by decide), if_neg (show ¬ (126 : Int32) = 62 by decide), if_neg (show ¬ (126 : Int32) = 125 by decide), if_pos (show (126 : Int32) = 126 from rfl), g2, if_neg (show ¬ (29 : Int32) = 28 by decide), if_pos (show (29 : Int32) = 29 from rfl), t46]
    refine rq_bC (tru_c H.1.1 H.2.2.1 H.1.2.1) (fun r8 s9 g => ?_)
    obtain ⟨es, g⟩ := g
    subst es
    refine rq_bC (hsf_p hx (by omega) s9) (fun r10 s11 f => rq_cC (fun _ => ?_))
    obtain ⟨es, f⟩ := f
    subst es
    have gq := g x4.toInt.toNat (by omega)
    refine rq_bM (some_m hx q8 (Or.inl ⟨rfl, rfl⟩) t h24 N E.1) (fun u1 t9 u => ?_)
    obtain ⟨et, u⟩ := u
    subst et
    refine rq_iM (fun c => rq_s ⟨rfl, rfl, ?_⟩) (fun c => rq_bM (some_m hx q8 (Or.inr ⟨rfl, rfl⟩) t9 h24 N E.2) (fun u2 t11 y => ?_))
    · exact f.elim (fun y => absurd (Bool.and_eq_true_iff.mp (gq.mp y.2).2).1 (r1_n u c)) (fun y => y.1)
    · obtain ⟨et, y⟩ := y
      subst et
      refine rq_iM (fun d => rq_s ⟨rfl, rfl, ?_⟩) (fun d => rq_s ⟨rfl, rfl, ?_⟩)
      · exact f.elim (fun z => absurd (Bool.and_eq_true_iff.mp (gq.mp z.2).2).2 (r1_n y d)) (fun z => z.1)
      · exact f.elim (fun z => z.1) (fun z => absurd (gq.mpr ⟨hq, Bool.and_eq_true_iff.mpr ⟨r1_y u c, r1_y y d⟩⟩) z.2)
  · have g2 : x2 = 30 := by rw [f2, show t.1 1 (110 + 6 * k) = 2430 from m]; rfl
    have hv := (V1 (Or.inr (Or.inr (Or.inr m)))).1
    rw [show t.1 1 (110 + 6 * k + 1) = x4 from f4.symm] at hv
    have hx : x4.toInt = (x4.toInt.toNat : Int) := by omega
    have h8 : x4.toInt.toNat < 8 := by omega
    have n47 : s.1 47 k = t.1 1 (110 + 6 * k + 2) := nu
    have n49 : t.1 1 (110 + 6 * k + 5) = s.1 49 k := te.symm
    rw [g2, if_neg (show ¬ (30 : Int32) = 28 by decide), if_neg (show ¬ (30 : Int32) = 29 by decide), t46]
    refine rq_bM (grains_m hx h8 t) (fun r12 t13 l => rq_cM (fun _ => ?_))
    obtain ⟨et, l⟩ := l
    subst et
    rw [hp 5 5 rfl (by decide), n49]
    rcases tk with z | z | z
    · rw [show s.1 49 k = 60 from z, if_pos (show (60 : Int32) = 60 from rfl), if_pos (show (60 : Int32) = 60 from rfl)]
      refine rq_cM (fun _ => rq_bC (ly_c H.1.2.1 hx h8) (fun r2 s3 g => ?_))
      obtain ⟨es, g⟩ := g
      subst es
      rw [hp 2 2 rfl (by decide), n47, g, l]
      exact rq_iC (fun c => rq_iM (fun _ => rq_s ⟨rfl, rfl, rfl⟩) (fun d => absurd c d)) (fun c => rq_iM (fun d => absurd d c) (fun _ => rq_s ⟨rfl, rfl, rfl⟩))
    · rw [show s.1 49 k = 62 from z, if_neg (show ¬ (62 : Int32) = 60 by decide), if_neg (show ¬ (62 : Int32) = 60 by decide), if_pos (show (62 : Int32) = 62 from rfl), if_pos (show (62 : Int32) = 62 from rfl)]
      refine rq_cM (fun _ => rq_bC (ly_c H.1.2.1 hx h8) (fun r2 s3 g => ?_))
      obtain ⟨es, g⟩ := g
      subst es
      rw [hp 2 2 rfl (by decide), n47, g, l]
      exact rq_iC (fun c => rq_iM (fun _ => rq_s ⟨rfl, rfl, rfl⟩) (fun d => absurd c d)) (fun c => rq_iM (fun d => absurd d c) (fun _ => rq_s ⟨rfl, rfl, rfl⟩))
    · rw [show s.1 49 k = 61 from z, if_neg (show ¬ (61 : Int32) = 60 by decide), if_neg (show ¬ (61 : Int32) = 60 by decide), if_neg (show ¬ (61 : Int32) = 62 by decide), if_neg (show ¬ (61 : Int32) = 62 by decide), if_neg (show ¬ (61 : Int32) = 125 by decide), if_neg (show ¬ (61 : Int32) = 126 by decide)]
      refine rq_cM (fun _ => rq_bC (ly_c H.1.2.1 hx h8) (fun r2 s3 g => ?_))
      obtain ⟨es, g⟩ := g
      subst es
      rw [hp 2 2 rfl (by decide), n47, g, l]
      exact rq_iC (fun c => rq_iM (fun _ => rq_s ⟨rfl, rfl, rfl⟩) (fun d => absurd c d)) (fun c => rq_iM (fun d => absurd d c) (fun _ => rq_s ⟨rfl, rfl, rfl⟩))
theorem tru_bz {M : Nat → Int32} {s : Sg} (P : PlnR 24 s M) (B : PlB M) (G : GrdT 27 s M) (m : Nat) : ∀ (i : Nat) (v3 v4 : Int32), v4.toInt = (i : Int) → i ≤ 8 → (i : Int) ≤ (M 0).toInt → (∀ x, x < 32 → (bt v3 x = true ↔ ((x : Int) < (M 1).toInt ∧ ∀ h, h < i → atB M x h = true → smB M x h (sgM M h) = true))) → PQ (f_X9_inTruce_53_25_b7 m v3 v4 s) (fun r s' => s' = s ∧ ∀ x, x < 32 → (bt r x = true ↔ ((x : Int) < (M 1).toInt ∧ ∀ h : Nat, (h : Int) < (M 0).toInt → atB M x h = true → smB M x h (sgM M h) = true))) := by
  induction m with
  | zero => intro i v3 v4 _ _ _ _ r s' q; cases q
  | succ m ih =>
    intro i v3 v4 h4 hi hH h3
    have e1 : (1 : Int32).toInt = 1 := rfl
    have a4 : (v4 + 1).toInt = v4.toInt + 1 := i_addx v4 1 (by omega)
    have e13 : (s.1 25 13).toInt = (M 0).toInt + 0 := P.1.1
    have b0 := P.2.1.1
    unfold f_X9_inTruce_53_25_b7
    refine pq_if (fun c => pq_s ⟨rfl, fun x hx => ?_⟩) (fun c => pq_c (fun _ => ?_))
    · have c := i_le c
      rw [h3 x hx]
      exact ⟨fun w => ⟨w.1, fun h hh => w.2 h (by omega)⟩, fun w => ⟨w.1, fun h hh => w.2 h (by omega)⟩⟩
    · have c := i_nle c
      have hh : i < 8 := by omega
      refine pq_b (sight_cz G h4 hh) (fun r4 s5 k => ?_)
      obtain ⟨es, k⟩ := k
      subst es
      refine pq_b (calm_c P B h4 hh r4) (fun r6 s7 l => pq_n (fun x8 e8 => ?_))
      obtain ⟨es, l⟩ := l
      subst es
      refine ih (i + 1) x8 (v4 + 1) (by omega) (by omega) (by omega) (fun x hx => ?_)
      have q34 := qa_b P hh x
      rw [e8, bt_and, bt_or, bt_xor, bt_m1 x hx, cl_h h4]
      have lx := l x hx
      have hx3 := h3 x hx
      rw [k] at lx
      constructor
      · intro w
        obtain ⟨w1, w2⟩ := Bool.and_eq_true_iff.mp w
        refine ⟨(hx3.mp w1).1, fun h hhi hat => ?_⟩
        by_cases z : h = i
        · subst z
          rcases Bool.or_eq_true_iff.mp w2 with y | y
          · rw [q34.mpr ⟨(hx3.mp w1).1, hat⟩] at y
            exact absurd y (by decide)
          · exact (lx.mp y).2.2
        · exact (hx3.mp w1).2 h (by omega) hat
      · intro w
        refine Bool.and_eq_true_iff.mpr ⟨hx3.mpr ⟨w.1, fun h hhi hat => w.2 h (by omega) hat⟩, Bool.or_eq_true_iff.mpr ?_⟩
        by_cases z : atB M x i = true
        · exact Or.inr (lx.mpr ⟨w.1, z, w.2 i (by omega) z⟩)
        · refine Or.inl ?_
          have y : bt (s7.1 34 i) x = false := by
            cases hb : bt (s7.1 34 i) x with
            | false => rfl
            | true => exact absurd (q34.mp hb).2 z
          rw [y]
          rfl
theorem tru_cz {M : Nat → Int32} {s : Sg} (P : PlnR 24 s M) (B : PlB M) (G : GrdT 27 s M) : PQ (f_X9_inTruce_53_25 s) (fun r s' => s' = s ∧ ∀ x, x < 32 → (bt r x = true ↔ ((x : Int) < (M 1).toInt ∧ tcB M x = true))) := by
  unfold f_X9_inTruce_53_25
  refine pq_b (allq_c P) (fun r1 s2 k => ?_)
  obtain ⟨es, k⟩ := k
  subst es
  refine pq_w (tru_bz P B G BIG 0 r1 0 rfl (by decide) P.2.1.1.1 (fun x hx => ?_)) (fun r s' w => ⟨w.1, fun x hx => ?_⟩)
  · rw [k x hx]
    exact ⟨fun w => ⟨w, fun h hh => absurd hh (Nat.not_lt_zero _)⟩, fun w => w.1⟩
  · rw [w.2 x hx]
    constructor
    · intro y
      have en := ends_h P y.1
      exact ⟨y.1, Bool.and_eq_true_iff.mpr ⟨y.2 _ en.2.2.1.1 (decide_eq_true (Or.inl en.1.1)), y.2 _ en.2.2.1.2 (decide_eq_true (Or.inr en.1.2))⟩⟩
    · intro y
      obtain ⟨y1, y2⟩ := y
      obtain ⟨y2, y3⟩ := Bool.and_eq_true_iff.mp y2
      refine ⟨y1, fun h hh hat => ?_⟩
      rcases (at_h P y1).mp hat with z | z
      · rw [z]; exact y2
      · rw [z]; exact y3
theorem holds_rz {s t : Sg} (H : NowG 27 s t) {k : Nat} (hk : k < 60) (a b : Int32) (ha : a.toInt = (k : Int)) (hb : b.toInt = 110 + 6 * (k : Int)) (R : RwR 24 110 s (t.1 1) k) (V : VdR 110 (t.1 1) k) (w : s.1 45 k = 124) : RQ (f_X3_holds_53_27_25 a s) (f_X12_holds b t) (fun r s' r' t' => s' = s ∧ t' = t ∧ r = r') := by
  have hp : ∀ (j : Nat) (bj : Int32), bj.toInt = (j : Int) → j < 6 → (b + bj).toNatClampNeg = 110 + 6 * k + j := fun j bj z1 z2 => by
    have y : (b + bj).toInt = b.toInt + bj.toInt := i_addx _ _ (by omega)
    exact cl_h (by omega)
  have hb0 : b.toNatClampNeg = 110 + 6 * k := cl_h (by omega)
  have b0 := H.1.1.2.1.1
  have b1 := H.1.1.2.1.2.1
  have h24 := H.2.1.2
  unfold f_X3_holds_53_27_25 f_X12_holds
  refine rq_cC (fun _ => rq_cM (fun _ => rq_nM (fun x2 f2 => rq_cM (fun _ => rq_nM (fun x4 f4 => ?_)))))
  rw [hb0] at f2
  rw [hp 1 1 rfl (by decide)] at f4
  rw [cl_h ha]
  obtain ⟨V1, V2, V3, V4, V5, V6, V7⟩ := V
  have no : ∀ {z : Int32}, s.1 45 k = z → ¬ (124 : Int32) = z → False := fun y z => z (w.symm.trans y)
  rcases R with ⟨y, -⟩ | ⟨y, -⟩ | ⟨y, -⟩ | ⟨y, -⟩ | ⟨y, -⟩ | ⟨y, -⟩ | ⟨y, -⟩ | ⟨y, -⟩ | ⟨y, -⟩ | ⟨-, th, R⟩
  · exact (no y (by decide)).elim
  · exact (no y (by decide)).elim
  · exact (no y (by decide)).elim
  · exact (no y (by decide)).elim
  · exact (no y (by decide)).elim
  · exact (no y (by decide)).elim
  · exact (no y (by decide)).elim
  · exact (no y (by decide)).elim
  · exact (no y (by decide)).elim
  have t46 : s.1 46 k = x4 := th.trans f4.symm
  rcases R with ⟨te, m⟩ | ⟨te, m⟩ | ⟨te, tk, nu, m⟩
  · have g2 : x2 = 28 := by rw [f2, show t.1 1 (110 + 6 * k) = 2428 from m]; rfl
    have hv := V3 (Or.inl m)
    rw [show t.1 1 (110 + 6 * k + 1) = x4 from f4.symm] at hv
    have hx : x4.toInt = (x4.toInt.toNat : Int) := by omega
    have q8 : x4.toInt.toNat < 8 := by omega
    rw [show s.1 49 k = 125 from te, if_neg (show ¬ (125 : Int32) = 60 by decide), if_neg (show ¬ (125 : Int32) = 62 by decide), if_pos (show (125 : Int32) = 125 from rfl), g2, if_pos (show (28 : Int32) = 28 from rfl), t46]
    refine rq_bC (hsf_p hx (by omega) s) (fun r s2 g => rq_cC (fun _ => rq_bM (qrow_p x4 t) (fun r5 t6 l => rq_cM (fun _ => ?_))))
    obtain ⟨es, g⟩ := g
    obtain ⟨et, l⟩ := l
    subst es
    subst et
    rw [l, (qr_x hx q8).2.2.2.1]
    have ov := H.1.2.2.2.2 x4.toInt.toNat (by omega)
    refine rq_iM (fun c => rq_s ⟨rfl, rfl, ?_⟩) (fun c => rq_s ⟨rfl, rfl, ?_⟩)
    · exact g.elim (fun y => y.1) (fun y => absurd (ov.trans (decide_eq_true ⟨q8, c⟩)) y.2)
    · exact g.elim (fun y => absurd (of_decide_eq_true (ov.symm.trans y.2)).2 c) (fun y => y.1)
  · have g2 : x2 = 29 := by rw [f2, show t.1 1 (110 + 6 * k) = 2429 from m]; rfl
    have hv := V3 (Or.inr m)
    rw [show t.1 1 (110 + 6 * k + 1) = x4 from f4.symm] at hv
    have hx : x4.toInt = (x4.toInt.toNat : Int) := by omega
    have hq : (x4.toInt.toNat : Int) < (t.1 1 1).toInt := by omega
    have q8 : x4.toInt.toNat < 8 := by omega
    have E := (pln_q H.1.1 hq).2.2.1
    have N := (H.2.2.1.1 x4.toInt.toNat hq).1
    rw [show s.1 49 k = 126 from te, if_neg (show ¬ (126 : Int32) = 60 by decide), if_neg (show ¬ (126 : Int32) = 62 by decide), if_neg (show ¬ (126 : Int32) = 125 by decide), if_pos (show (126 : Int32) = 126 from rfl), g2, if_neg (show ¬ (29 : Int32) = 28 by decide), if_pos (show (29 : Int32) = 29 from rfl), t46]
    refine rq_bC (tru_cz H.1.1 H.2.2.1 H.1.2.1) (fun r8 s9 g => ?_)
    obtain ⟨es, g⟩ := g
    subst es
    refine rq_bC (hsf_p hx (by omega) s9) (fun r10 s11 f => rq_cC (fun _ => ?_))
    obtain ⟨es, f⟩ := f
    subst es
    have gq := g x4.toInt.toNat (by omega)
    refine rq_bM (some_m hx q8 (Or.inl ⟨rfl, rfl⟩) t h24 N E.1) (fun u1 t9 u => ?_)
    obtain ⟨et, u⟩ := u
    subst et
    refine rq_iM (fun c => rq_s ⟨rfl, rfl, ?_⟩) (fun c => rq_bM (some_m hx q8 (Or.inr ⟨rfl, rfl⟩) t9 h24 N E.2) (fun u2 t11 y => ?_))
    · exact f.elim (fun y => absurd (Bool.and_eq_true_iff.mp (gq.mp y.2).2).1 (r1_n u c)) (fun y => y.1)
    · obtain ⟨et, y⟩ := y
      subst et
      refine rq_iM (fun d => rq_s ⟨rfl, rfl, ?_⟩) (fun d => rq_s ⟨rfl, rfl, ?_⟩)
      · exact f.elim (fun z => absurd (Bool.and_eq_true_iff.mp (gq.mp z.2).2).2 (r1_n y d)) (fun z => z.1)
      · exact f.elim (fun z => z.1) (fun z => absurd (gq.mpr ⟨hq, Bool.and_eq_true_iff.mpr ⟨r1_y u c, r1_y y d⟩⟩) z.2)
  · have g2 : x2 = 30 := by rw [f2, show t.1 1 (110 + 6 * k) = 2430 from m]; rfl
    have hv := (V1 (Or.inr (Or.inr (Or.inr m)))).1
    rw [show t.1 1 (110 + 6 * k + 1) = x4 from f4.symm] at hv
    have hx : x4.toInt = (x4.toInt.toNat : Int) := by omega
    have h8 : x4.toInt.toNat < 8 := by omega
    have n47 : s.1 47 k = t.1 1 (110 + 6 * k + 2) := nu
    have n49 : t.1 1 (110 + 6 * k + 5) = s.1 49 k := te.symm
    rw [g2, if_neg (show ¬ (30 : Int32) = 28 by decide), if_neg (show ¬ (30 : Int32) = 29 by decide), t46]
    refine rq_bM (grains_m hx h8 t) (fun r12 t13 l => rq_cM (fun _ => ?_))
    obtain ⟨et, l⟩ := l
    subst et
    rw [hp 5 5 rfl (by decide), n49]
    rcases tk with z | z | z
    · rw [show s.1 49 k = 60 from z, if_pos (show (60 : Int32) = 60 from rfl), if_pos (show (60 : Int32) = 60 from rfl)]
      refine rq_cM (fun _ => rq_bC (ly_cz H.1.2.1 hx h8) (fun r2 s3 g => ?_))
      obtain ⟨es, g⟩ := g
      subst es
      rw [hp 2 2 rfl (by decide), n47, g, l]
      exact rq_iC (fun c => rq_iM (fun _ => rq_s ⟨rfl, rfl, rfl⟩) (fun d => absurd c d)) (fun c => rq_iM (fun d => absurd d c) (fun _ => rq_s ⟨rfl, rfl, rfl⟩))
    · rw [show s.1 49 k = 62 from z, if_neg (show ¬ (62 : Int32) = 60 by decide), if_neg (show ¬ (62 : Int32) = 60 by decide), if_pos (show (62 : Int32) = 62 from rfl), if_pos (show (62 : Int32) = 62 from rfl)]
      refine rq_cM (fun _ => rq_bC (ly_cz H.1.2.1 hx h8) (fun r2 s3 g => ?_))
      obtain ⟨es, g⟩ := g
      subst es
      rw [hp 2 2 rfl (by decide), n47, g, l]
      exact rq_iC (fun c => rq_iM (fun _ => rq_s ⟨rfl, rfl, rfl⟩) (fun d => absurd c d)) (fun c => rq_iM (fun d => absurd d c) (fun _ => rq_s ⟨rfl, rfl, rfl⟩))
    · rw [show s.1 49 k = 61 from z, if_neg (show ¬ (61 : Int32) = 60 by decide), if_neg (show ¬ (61 : Int32) = 60 by decide), if_neg (show ¬ (61 : Int32) = 62 by decide), if_neg (show ¬ (61 : Int32) = 62 by decide), if_neg (show ¬ (61 : Int32) = 125 by decide), if_neg (show ¬ (61 : Int32) = 126 by decide)]
      refine rq_cM (fun _ => rq_bC (ly_cz H.1.2.1 hx h8) (fun r2 s3 g => ?_))
      obtain ⟨es, g⟩ := g
      subst es
      rw [hp 2 2 rfl (by decide), n47, g, l]
      exact rq_iC (fun c => rq_iM (fun _ => rq_s ⟨rfl, rfl, rfl⟩) (fun d => absurd c d)) (fun c => rq_iM (fun d => absurd d c) (fun _ => rq_s ⟨rfl, rfl, rfl⟩))
