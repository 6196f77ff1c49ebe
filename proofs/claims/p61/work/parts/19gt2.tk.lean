/-! reaches, chain: sets that grow till nothing is added -/
def itf (F : Int32 → Int32) : Nat → Int32 → Int32
  | 0, x => x
  | k + 1, x => itf F k (F x)
def Inf (F : Int32 → Int32) : Prop := ∀ x i, bt x i = true → bt (F x) i = true
def cnp (pos : Nat → Nat) : Nat → Int32 → Nat
  | 0, _ => 0
  | n + 1, x => cnp pos n x + (if bt x (pos n) = true then 0 else 1)
theorem cnp_le (pos : Nat → Nat) (x : Int32) : ∀ n, cnp pos n x ≤ n
  | 0 => Nat.le_refl 0
  | n + 1 => by
    have := cnp_le pos x n
    unfold cnp
    by_cases c : bt x (pos n) = true
    · rw [if_pos c]; omega
    · rw [if_neg c]; omega
theorem cnp_m (pos : Nat → Nat) {x y : Int32} (h : ∀ i, bt x i = true → bt y i = true) : ∀ n, cnp pos n y ≤ cnp pos n x
  | 0 => Nat.le_refl 0
  | n + 1 => by
    have := cnp_m pos h n
    unfold cnp
    by_cases c : bt x (pos n) = true
    · rw [if_pos c, if_pos (h _ c)]; omega
    · rw [if_neg c]
      by_cases d : bt y (pos n) = true
      · rw [if_pos d]; omega
      · rw [if_neg d]; omega
theorem cnp_lt (pos : Nat → Nat) {x y : Int32} (h : ∀ i, bt x i = true → bt y i = true) {c : Nat} (h1 : ¬ bt x (pos c) = true) (h2 : bt y (pos c) = true) : ∀ n, c < n → cnp pos n y < cnp pos n x
  | 0, z => absurd z (Nat.not_lt_zero _)
  | n + 1, z => by
    have m := cnp_m pos h n
    unfold cnp
    by_cases e : c = n
    · subst e
      rw [if_pos h2, if_neg h1]
      omega
    · have := cnp_lt pos h h1 h2 n (by omega)
      by_cases d : bt x (pos n) = true
      · rw [if_pos d, if_pos (h _ d)]; omega
      · rw [if_neg d]
        by_cases f : bt y (pos n) = true
        · rw [if_pos f]; omega
        · rw [if_neg f]; omega
theorem cnp_0 (pos : Nat → Nat) {x : Int32} : ∀ n, cnp pos n x = 0 → ∀ c, c < n → bt x (pos c) = true
  | 0, _, c, z => absurd z (Nat.not_lt_zero _)
  | n + 1, h, c, z => by
    unfold cnp at h
    by_cases d : bt x (pos n) = true
    · by_cases e : c = n
      · rw [e]; exact d
      · exact cnp_0 pos n (by omega) c (by omega)
    · rw [if_neg d] at h
      omega
theorem bt_le {x y : Int32} (h : ∀ i, bt x i = true → bt y i = true) (g : ∀ i, bt y i = true → bt x i = true) : x = y := bt_ext (fun i _ => by
  cases a : bt x i <;> cases b : bt y i
  · rfl
  · exact absurd (g i b) (by rw [a]; decide)
  · exact absurd (h i a) (by rw [b]; decide)
  · rfl)
theorem itf_e {F : Int32 → Int32} {x : Int32} (h : F x = x) : ∀ k, itf F k x = x
  | 0 => rfl
  | k + 1 => by
    unfold itf
    rw [h]
    exact itf_e h k
/-- behind as many rounds as there are places to be filled nothing is added -/
theorem itf_fix {F : Int32 → Int32} (hI : Inf F) (pos : Nat → Nat) (n : Nat) (hL : ∀ x i, bt (F x) i = true → bt x i = true ∨ ∃ c, c < n ∧ i = pos c) : ∀ k x, cnp pos n x ≤ k → F (itf F k x) = itf F k x
  | k, x, hk => by
    by_cases e : F x = x
    · rw [itf_e e k]; exact e
    · have d : ∃ c, c < n ∧ ¬ bt x (pos c) = true ∧ bt (F x) (pos c) = true := Classical.byContradiction (fun z => e (bt_le (fun i hi => by
        rcases hL x i hi with w | ⟨c, w1, w2⟩
        · exact w
        · refine Classical.byContradiction (fun y => z ⟨c, w1, ?_, ?_⟩)
          · rw [← w2]; exact y
          · rw [← w2]; exact hi) (hI x)))
      obtain ⟨c, c1, c2, c3⟩ := d
      have l := cnp_lt pos (hI x) c2 c3 n c1
      cases k with
      | zero => omega
      | succ k =>
        unfold itf
        exact itf_fix hI pos n hL k (F x) (by omega)
theorem itf_s {F : Int32 → Int32} : ∀ k x, itf F (k + 1) x = F (itf F k x)
  | 0, _ => rfl
  | k + 1, x => by
    show itf F (k + 1) (F x) = F (itf F k (F x))
    exact itf_s k (F x)
theorem itf_add {F : Int32 → Int32} {k : Nat} {x : Int32} (h : F (itf F k x) = itf F k x) : ∀ j, itf F (k + j) x = itf F k x
  | 0 => rfl
  | j + 1 => by
    rw [← Nat.add_assoc, itf_s, itf_add h j]
    exact h
theorem itf_inf {F : Int32 → Int32} (hI : Inf F) : ∀ k x i, bt x i = true → bt (itf F k x) i = true
  | 0, _, _, h => h
  | k + 1, x, i, h => itf_inf hI k (F x) i (hI x i h)
theorem itf_min {F : Int32 → Int32} {z : Int32} (h : ∀ x, (∀ i, bt x i = true → bt z i = true) → ∀ i, bt (F x) i = true → bt z i = true) : ∀ k x, (∀ i, bt x i = true → bt z i = true) → ∀ i, bt (itf F k x) i = true → bt z i = true
  | 0, _, g => g
  | k + 1, x, g => itf_min h k (F x) (h x g)
/-! reaches -/
def rst (M : Nat → Int32) : Nat → Int32 → Int32
  | 0, x => x
  | n + 1, x => if bt (rst M n x) (M (80 + 3 * n)).toInt.toNat = true then rst M n x ||| bitI (M (81 + 3 * n)).toInt.toNat else rst M n x
theorem rst_s (M : Nat → Int32) (n : Nat) (x : Int32) : rst M (n + 1) x = if bt (rst M n x) (M (80 + 3 * n)).toInt.toNat = true then rst M n x ||| bitI (M (81 + 3 * n)).toInt.toNat else rst M n x := rfl
theorem rst_i (M : Nat → Int32) : ∀ n, Inf (rst M n)
  | 0, _, _, h => h
  | n + 1, x, i, h => by
    have g := rst_i M n x i h
    rw [rst_s]
    by_cases c : bt (rst M n x) (M (80 + 3 * n)).toInt.toNat = true
    · rw [if_pos c, bt_or, g]
      rfl
    · rw [if_neg c]; exact g
theorem rst_l (M : Nat → Int32) (hb : ∀ c, (M (81 + 3 * c)).toInt.toNat < 32 ∨ True) : ∀ n x i, (∀ c, c < n → (M (81 + 3 * c)).toInt.toNat < 32) → bt (rst M n x) i = true → bt x i = true ∨ ∃ c, c < n ∧ i = (M (81 + 3 * c)).toInt.toNat
  | 0, _, _, _, h => Or.inl h
  | n + 1, x, i, hc, h => by
    have ih := rst_l M hb n x i (fun c z => hc c (by omega))
    rw [rst_s] at h
    have up : bt (rst M n x) i = true → bt x i = true ∨ ∃ c, c < n + 1 ∧ i = (M (81 + 3 * c)).toInt.toNat := fun w => by
      rcases ih w with z | ⟨c, z1, z2⟩
      · exact Or.inl z
      · exact Or.inr ⟨c, by omega, z2⟩
    by_cases c : bt (rst M n x) (M (80 + 3 * n)).toInt.toNat = true
    · rw [if_pos c, bt_or, bt_bit (hc n (by omega))] at h
      rcases Bool.or_eq_true_iff.mp h with w | w
      · exact up w
      · exact Or.inr ⟨n, by omega, of_decide_eq_true w⟩
    · rw [if_neg c] at h
      exact up h
theorem hsf_p {a b : Int32} {q : Nat} (hb : b.toInt = (q : Int)) (hq : q < 32) (s : Sg) : PQ (f_X11_has a b s) (fun r s' => s' = s ∧ Fl (bt a q = true) r) := by
  unfold f_X11_has
  exact pq_f0 (sh1_0 a b hb hq)
theorem cat_bb {M : Nat → Int32} {s : Sg} (P : PlnR 24 s M) {c : Nat} (hc : (c : Int) < (M 2).toInt) : (s.1 35 c = M (80 + 3 * c) ∧ s.1 36 c = M (81 + 3 * c) ∧ s.1 37 c = M (82 + 3 * c)) ∧ ((M (80 + 3 * c)).toInt = ((M (80 + 3 * c)).toInt.toNat : Int) ∧ (M (81 + 3 * c)).toInt = ((M (81 + 3 * c)).toInt.toNat : Int)) ∧ (M (80 + 3 * c)).toInt.toNat < 8 ∧ (M (81 + 3 * c)).toInt.toNat < 8 ∧ c < 4 := by
  have b := P.2.1
  have pc := P.2.2.2.2.2.1 c hc
  have p1 : s.1 35 c = M (80 + 3 * c) := pc.1.1
  have p2 : s.1 36 c = M (81 + 3 * c) := pc.1.2.1
  have q1 : 0 ≤ (s.1 35 c).toInt ∧ (s.1 35 c).toInt < (M 0).toInt := pc.2.1
  have q2 : 0 ≤ (s.1 36 c).toInt ∧ (s.1 36 c).toInt < (M 0).toInt := pc.2.2.1
  have b0 : (M 0).toInt ≤ 8 := b.1.2
  have b2 : (M 2).toInt ≤ 4 := b.2.2.1.2
  rw [p1] at q1
  rw [p2] at q2
  exact ⟨⟨p1, p2, pc.1.2.2⟩, by omega, by omega, by omega, by omega⟩
theorem rch_15 {M : Nat → Int32} {s : Sg} (P : PlnR 24 s M) {k : Int32 → Int32 → Sg → Option (Int32 × Sg)} {Q : Int32 → Sg → Prop} (v3 x0 : Int32) (hk : PQ (k (rst M (M 2).toInt.toNat x0) (v3 + 1) s) Q) (m : Nat) : ∀ (i : Nat) (v2 v4 : Int32), v4.toInt = (i : Int) → (i : Int) ≤ (M 2).toInt → v2 = rst M i x0 → PQ (f_X4_reachedFrom_b15 k m v2 v3 v4 s) Q := by
  induction m with
  | zero => intro i v2 v4 _ _ _ r s' z; cases z
  | succ m ih =>
    intro i v2 v4 h4 hi h2
    have e1 : (1 : Int32).toInt = 1 := rfl
    have e15 : s.1 25 15 = M 2 := P.1.2.2.1
    have b2 := P.2.1.2.2.1
    unfold f_X4_reachedFrom_b15
    rw [e15]
    refine pq_if (fun c => ?_) (fun c => pq_c (fun _ => ?_))
    · have c := i_le c
      have z : (M 2).toInt.toNat = i := by omega
      rw [z, ← h2] at hk
      exact hk
    · have c := i_nle c
      have cb := cat_bb P (c := i) (by omega)
      have a4 : (v4 + 1).toInt = ((i + 1 : Nat) : Int) := by rw [i_addx _ _ (by omega)]; omega
      rw [cl_h h4, cb.1.1]
      refine pq_b (hsf_p cb.2.1.1 (by omega) s) (fun r3 s4 g => ?_)
      obtain ⟨es, g⟩ := g
      subst es
      rw [h2] at g
      refine pq_if (fun d => ih (i + 1) v2 (v4 + 1) a4 (by omega) ?_) (fun d => pq_n (fun x5 e5 => ih (i + 1) x5 (v4 + 1) a4 (by omega) ?_))
      · rw [rst_s, if_neg (r1_n g d)]
        exact h2
      · rw [rst_s, if_pos (r1_y g d), e5, cb.1.2.1, bitI_v cb.2.1.2 (by omega), h2]
theorem rch_6 {M : Nat → Int32} {s : Sg} (P : PlnR 24 s M) (x0 : Int32) (m : Nat) : ∀ (j : Nat) (v2 v3 : Int32), v3.toInt = (j : Int) → j ≤ 8 → itf (rst M (M 2).toInt.toNat) (8 - j) v2 = itf (rst M (M 2).toInt.toNat) 8 x0 → PQ (f_X4_reachedFrom_b6 m v2 v3 s) (fun r s' => s' = s ∧ r = itf (rst M (M 2).toInt.toNat) 8 x0) := by
  induction m with
  | zero => intro j v2 v3 _ _ _ r s' z; cases z
  | succ m ih =>
    intro j v2 v3 h3 hj h2
    have e1 : (1 : Int32).toInt = 1 := rfl
    have e8 : (8 : Int32).toInt = 8 := rfl
    unfold f_X4_reachedFrom_b6
    refine pq_if (fun c => pq_s ⟨rfl, ?_⟩) (fun c => rch_15 P v3 v2 ?_ BIG 0 v2 0 rfl P.2.1.2.2.1.1 rfl)
    · have c := i_le c
      have z : j = 8 := by omega
      rw [z] at h2
      exact h2
    · have c := i_nle c
      refine ih (j + 1) _ (v3 + 1) (by rw [i_addx _ _ (by omega)]; omega) (by omega) ?_
      rw [← h2, show 8 - j = (8 - (j + 1)) + 1 by omega]
      rfl
theorem rch_32 {s t : Sg} (P : PlnR 24 s (t.1 1)) {k : Int32 → Int32 → Sg → Option (Int32 × Sg)} {Q : Int32 → Sg → Prop} (v4 x0 : Int32) (hk : PQ (k (rst (t.1 1) (t.1 1 2).toInt.toNat x0) (v4 + 1) t) Q) (m : Nat) : ∀ (i : Nat) (v3 v5 : Int32), v5.toInt = (i : Int) → (i : Int) ≤ (t.1 1 2).toInt → v3 = rst (t.1 1) i x0 → PQ (f_X12_reaches_b32 k m v3 v4 v5 t) Q := by
  induction m with
  | zero => intro i v3 v5 _ _ _ r s' z; cases z
  | succ m ih =>
    intro i v3 v5 h5 hi h3
    have e1 : (1 : Int32).toInt = 1 := rfl
    have b2 := P.2.1.2.2.1
    unfold f_X12_reaches_b32
    refine pq_if (fun c => ?_) (fun c => pq_c (fun _ => ?_))
    · have c := i_le c
      have z : (t.1 1 2).toInt.toNat = i := by omega
      rw [z, ← h3] at hk
      exact hk
    · have c := i_nle c
      have cb := cat_bb P (c := i) (by omega)
      have x := cx_x h5 cb.2.2.2.2
      have a5 : (v5 + 1).toInt = ((i + 1 : Nat) : Int) := by rw [i_addx _ _ (by omega)]; omega
      rw [x.1]
      have sh := sh1_1 v3 (t.1 1 (80 + 3 * i)) cb.2.1.1 (by omega)
      rw [h3] at sh
      refine pq_if (fun d => pq_c (fun _ => pq_n (fun x8 e8 => ih (i + 1) x8 (v5 + 1) a5 (by omega) ?_))) (fun d => ih (i + 1) v3 (v5 + 1) a5 (by omega) ?_)
      · rw [h3] at d
        rw [x.2.1] at e8
        rw [rst_s, if_pos (sh.mp d), e8, bitI_v cb.2.1.2 (by omega), h3]
      · rw [h3] at d
        rw [rst_s, if_neg (fun z => d (sh.mpr z))]
        exact h3
theorem rch_23 {s t : Sg} (P : PlnR 24 s (t.1 1)) (x0 : Int32) (m : Nat) : ∀ (j : Nat) (v3 v4 : Int32), v4.toInt = (j : Int) → j ≤ 4 → itf (rst (t.1 1) (t.1 1 2).toInt.toNat) (4 - j) v3 = itf (rst (t.1 1) (t.1 1 2).toInt.toNat) 4 x0 → PQ (f_X12_reaches_b23 m v3 v4 t) (fun r t' => t'.1 0 2 = 0 ∧ r = itf (rst (t.1 1) (t.1 1 2).toInt.toNat) 4 x0) := by
  induction m with
  | zero => intro j v3 v4 _ _ _ r s' z; cases z
  | succ m ih =>
    intro j v3 v4 h4 hj h3
    have e1 : (1 : Int32).toInt = 1 := rfl
    have e4 : (4 : Int32).toInt = 4 := rfl
    unfold f_X12_reaches_b23
    refine pq_if (fun c => ?_) (fun c => rch_32 P v4 v3 ?_ BIG 0 v3 0 rfl P.2.1.2.2.1.1 rfl)
    · have c := i_le c
      have z : j = 4 := by omega
      rw [z] at h3
      have q : PQ (some (v3, pI t 0 2 0)) (fun r t' => t'.1 0 2 = 0 ∧ r = itf (rst (t.1 1) (t.1 1 2).toInt.toNat) 4 x0) := pq_s ⟨q_eq, h3⟩
      exact q
    · have c := i_nle c
      refine ih (j + 1) _ (v4 + 1) (by rw [i_addx _ _ (by omega)]; omega) (by omega) ?_
      rw [← h3, show 4 - j = (4 - (j + 1)) + 1 by omega]
      rfl
theorem rch_48 {M : Nat → Int32} {s : Sg} (P : PlnR 24 s M) (x : Int32) : itf (rst M (M 2).toInt.toNat) 8 x = itf (rst M (M 2).toInt.toNat) 4 x := by
  have b2 := P.2.1.2.2.1
  have h := itf_fix (rst_i M (M 2).toInt.toNat) (fun c => (M (81 + 3 * c)).toInt.toNat) (M 2).toInt.toNat (fun x i w => rst_l M (fun _ => Or.inr trivial) _ x i (fun c hc => by have := (cat_bb P (c := c) (by omega)).2.2.2.1; omega) w) 4 x (by have := cnp_le (fun c => (M (81 + 3 * c)).toInt.toNat) x (M 2).toInt.toNat; omega)
  exact itf_add h 4
theorem reaches_q {s t : Sg} (P : PlnR 24 s (t.1 1)) (a : Int32) : RQ (f_X11_reaches a s) (f_X12_reaches a t) AnQ := by
  unfold f_X11_reaches f_X12_reaches
  refine rq_wn (whyNo_c P a 1 (Or.inl ⟨rfl, trivial⟩)) (wrong_m a P.2.1.1.2) ?_ (fun _ _ => ?_) (fun hh hg => ?_)
  · exact aq_rf s t 1
  · exact aq_rf s t 7
  · have n := hs_n P.2.1.1.2 hh
    rw [if_pos rfl, if_pos (by decide)]
    unfold f_X4_reachedFrom
    rw [bitI_v n.1 (by omega)]
    refine rq_bC (P := fun r s' => s' = s ∧ r = itf (rst (t.1 1) (t.1 1 2).toInt.toNat) 8 (bitI a.toInt.toNat)) (pq_n (fun x1 e => ?_)) (fun r3 s4 g => rq_nM (fun x3 e3 => ?_))
    · rw [e]
      exact rch_6 P _ BIG 0 _ 0 rfl (by decide) rfl
    · obtain ⟨es, g⟩ := g
      subst es
      rw [e3]
      have q : RQ (some (r3, pI s4 0 15 0)) (f_X12_reaches_b23 BIG (bitI a.toInt.toNat) 0 t) AnQ := rq_pp (P := fun r s' => r = r3 ∧ s'.1 0 15 = 0) (pq_s ⟨rfl, q_eq⟩) (rch_23 P (bitI a.toInt.toNat) BIG 0 _ 0 rfl (by decide) rfl) (fun r s r' t' x y => ⟨by rw [x.1, g, y.2]; exact rch_48 P _, x.2.trans y.1.symm⟩)
      exact q
/-! chain -/
def cst (qa : Nat → Int32) : Nat → Int32 → Int32
  | 0, x => x
  | n + 1, x => if (cst qa n x &&& qa n) = 0 then cst qa n x else cst qa n x ||| qa n
theorem cst_s (qa : Nat → Int32) (n : Nat) (x : Int32) : cst qa (n + 1) x = if (cst qa n x &&& qa n) = 0 then cst qa n x else cst qa n x ||| qa n := rfl
theorem cst_i (qa : Nat → Int32) : ∀ n, Inf (cst qa n)
  | 0, _, _, h => h
  | n + 1, x, i, h => by
    have g := cst_i qa n x i h
    rw [cst_s]
    by_cases c : (cst qa n x &&& qa n) = 0
    · rw [if_pos c]; exact g
    · rw [if_neg c, bt_or, g]
      rfl
theorem cst_l (qa : Nat → Int32) (b : Nat) : ∀ n x i, (∀ h, h < n → ∀ j, bt (qa h) j = true → j < b) → bt (cst qa n x) i = true → bt x i = true ∨ ∃ c, c < b ∧ i = c
  | 0, _, _, _, h => Or.inl h
  | n + 1, x, i, hc, h => by
    have ih := cst_l qa b n x i (fun c z => hc c (by omega))
    rw [cst_s] at h
    by_cases c : (cst qa n x &&& qa n) = 0
    · rw [if_pos c] at h
      exact ih h
    · rw [if_neg c, bt_or] at h
      rcases Bool.or_eq_true_iff.mp h with w | w
      · exact ih w
      · exact Or.inr ⟨i, hc n (by omega) i w, rfl⟩
/-- a set that holds all that share a house with it -/
def ClQ (M : Nat → Int32) (z : Int32) : Prop := ∀ a b h : Nat, (a : Int) < (M 1).toInt → (b : Int) < (M 1).toInt → bt z a = true → atB M a h = true → atB M b h = true → bt z b = true
theorem and_0 {x y : Int32} : (x &&& y) = 0 ↔ ∀ i, bt x i = true → ¬ bt y i = true := by
  constructor
  · intro h i hx hy
    have : bt (x &&& y) i = true := by rw [bt_and, hx, hy]; rfl
    rw [h, bt_0] at this
    exact absurd this (by decide)
  · intro h
    refine bt_ext (fun i _ => ?_)
    rw [bt_and, bt_0]
    cases a : bt x i
    · rfl
    · cases b : bt y i
      · rfl
      · exact absurd b (h i a)
theorem cst_min {M : Nat → Int32} {s : Sg} (P : PlnR 24 s M) {z : Int32} (hz : ClQ M z) : ∀ n, n ≤ 8 → ∀ x, (∀ i, bt x i = true → bt z i = true) → ∀ i, bt (cst (s.1 34) n x) i = true → bt z i = true
  | 0, _, _, g => g
  | n + 1, hn, x, g => fun i hi => by
    have ih := cst_min P hz n (by omega) x g
    rw [cst_s] at hi
    by_cases c : (cst (s.1 34) n x &&& s.1 34 n) = 0
    · rw [if_pos c] at hi
      exact ih i hi
    · rw [if_neg c, bt_or] at hi
      rcases Bool.or_eq_true_iff.mp hi with w | w
      · exact ih i w
      · have e : ∃ j, bt (cst (s.1 34) n x) j = true ∧ bt (s.1 34 n) j = true := Classical.byContradiction (fun y => c (and_0.mpr (fun j a b => y ⟨j, a, b⟩)))
        obtain ⟨j, j1, j2⟩ := e
        have qj := (qa_b P (by omega) j).mp j2
        have qi := (qa_b P (by omega) i).mp w
        exact hz j i n qj.1 qi.1 (ih j j1) qj.2 qi.2
theorem cst_fx (qa : Nat → Int32) {x : Int32} : ∀ n, cst qa n x = x → ∀ h, h < n → (x &&& qa h) = 0 ∨ ∀ i, bt (qa h) i = true → bt x i = true
  | 0, _, h, z => absurd z (Nat.not_lt_zero h)
  | n + 1, e, h, z => by
    have en : cst qa n x = x := bt_le (fun i w => by
      have w2 : bt (cst qa (n + 1) x) i = true := by
        rw [cst_s]
        by_cases c : (cst qa n x &&& qa n) = 0
        · rw [if_pos c]; exact w
        · rw [if_neg c, bt_or, w]; rfl
      rw [e] at w2
      exact w2) (cst_i qa n x)
    by_cases y : h = n
    · subst y
      rw [cst_s, en] at e
      by_cases c : (x &&& qa h) = 0
      · exact Or.inl c
      · rw [if_neg c] at e
        refine Or.inr (fun i w => ?_)
        rw [← e, bt_or, w]
        cases bt x i <;> rfl
    · exact cst_fx qa n en h (by omega)
theorem cst_cl {M : Nat → Int32} {s : Sg} (P : PlnR 24 s M) {x : Int32} (h : cst (s.1 34) (M 0).toInt.toNat x = x) : ClQ M x := fun a b y ha hb hx h1' h2' => by
  have b0 := P.2.1.1
  have en := ends_h P ha
  have yl : (y : Int) < (M 0).toInt := by
    rcases (at_h P ha).mp h1' with w | w <;> omega
  have y8 : y < 8 := by omega
  rcases cst_fx (s.1 34) _ h y (by omega) with w | w
  · exact absurd ((qa_b P y8 a).mpr ⟨ha, h1'⟩) (and_0.mp w a hx)
  · exact w b ((qa_b P y8 b).mpr ⟨hb, h2'⟩)
theorem chn_15 {M : Nat → Int32} {s : Sg} (P : PlnR 24 s M) {k : Int32 → Int32 → Sg → Option (Int32 × Sg)} {Q : Int32 → Sg → Prop} (v3 x0 : Int32) (hk : PQ (k (cst (s.1 34) (M 0).toInt.toNat x0) (v3 + 1) s) Q) (m : Nat) : ∀ (i : Nat) (v2 v4 : Int32), v4.toInt = (i : Int) → (i : Int) ≤ (M 0).toInt → v2 = cst (s.1 34) i x0 → PQ (f_X4_joinedTo_b15 k m v2 v3 v4 s) Q := by
  induction m with
  | zero => intro i v2 v4 _ _ _ r s' z; cases z
  | succ m ih =>
    intro i v2 v4 h4 hi h2
    have e1 : (1 : Int32).toInt = 1 := rfl
    have b0 := P.2.1.1
    have e13 : (s.1 25 13).toInt = (M 0).toInt + 0 := P.1.1
    unfold f_X4_joinedTo_b15
    refine pq_if (fun c => ?_) (fun c => pq_c (fun _ => ?_))
    · have c := i_le c
      have z : (M 0).toInt.toNat = i := by omega
      rw [z, ← h2] at hk
      exact hk
    · have c := i_nle c
      have a4 : (v4 + 1).toInt = ((i + 1 : Nat) : Int) := by rw [i_addx _ _ (by omega)]; omega
      rw [cl_h h4]
      refine pq_if (fun d => ih (i + 1) v2 (v4 + 1) a4 (by omega) ?_) (fun d => pq_n (fun x5 e5 => ih (i + 1) x5 (v4 + 1) a4 (by omega) ?_))
      · rw [h2] at d
        rw [cst_s, if_pos d]
        exact h2
      · rw [h2] at d
        rw [cst_s, if_neg d, e5, h2]
theorem chn_6 {M : Nat → Int32} {s : Sg} (P : PlnR 24 s M) (x0 : Int32) (m : Nat) : ∀ (j : Nat) (v2 v3 : Int32), v3.toInt = (j : Int) → j ≤ 8 → itf (cst (s.1 34) (M 0).toInt.toNat) (8 - j) v2 = itf (cst (s.1 34) (M 0).toInt.toNat) 8 x0 → PQ (f_X4_joinedTo_b6 m v2 v3 s) (fun r s' => s' = s ∧ r = itf (cst (s.1 34) (M 0).toInt.toNat) 8 x0) := by
  induction m with
  | zero => intro j v2 v3 _ _ _ r s' z; cases z
  | succ m ih =>
    intro j v2 v3 h3 hj h2
    have e1 : (1 : Int32).toInt = 1 := rfl
    have e8 : (8 : Int32).toInt = 8 := rfl
    unfold f_X4_joinedTo_b6
    refine pq_if (fun c => pq_s ⟨rfl, ?_⟩) (fun c => chn_15 P v3 v2 ?_ BIG 0 v2 0 rfl P.2.1.1.1 rfl)
    · have c := i_le c
      have z : j = 8 := by omega
      rw [z] at h2
      exact h2
    · have c := i_nle c
      refine ih (j + 1) _ (v3 + 1) (by rw [i_addx _ _ (by omega)]; omega) (by omega) ?_
      rw [← h2, show 8 - j = (8 - (j + 1)) + 1 by omega]
      rfl
/-- which share a house -/
def shQ (M : Nat → Int32) (a b : Nat) : Bool := atB M b (h0 M a) || atB M b (h1 M a)
def jst (M : Nat → Int32) (a : Nat) : Nat → Int32 → Int32
  | 0, x => x
  | n + 1, x => if shQ M a n = true then jst M a n x ||| bitI n else jst M a n x
theorem jst_s (M : Nat → Int32) (a n : Nat) (x : Int32) : jst M a (n + 1) x = if shQ M a n = true then jst M a n x ||| bitI n else jst M a n x := rfl
theorem jst_b (M : Nat → Int32) (a : Nat) : ∀ n, n ≤ 32 → ∀ x i, bt (jst M a n x) i = true ↔ (bt x i = true ∨ (i < n ∧ shQ M a i = true))
  | 0, _, _, _ => ⟨Or.inl, fun w => w.elim id (fun y => absurd y.1 (Nat.not_lt_zero _))⟩
  | n + 1, hn, x, i => by
    have ih := jst_b M a n (by omega) x i
    rw [jst_s]
    by_cases c : shQ M a n = true
    · rw [if_pos c, bt_or, bt_bit (by omega)]
      constructor
      · intro w
        rcases Bool.or_eq_true_iff.mp w with w | w
        · rcases ih.mp w with z | z
          · exact Or.inl z
          · exact Or.inr ⟨by omega, z.2⟩
        · have w := of_decide_eq_true w
          exact Or.inr ⟨by omega, by rw [w]; exact c⟩
      · rintro (w | w)
        · exact Bool.or_eq_true_iff.mpr (Or.inl (ih.mpr (Or.inl w)))
        · by_cases z : i = n
          · exact Bool.or_eq_true_iff.mpr (Or.inr (decide_eq_true z))
          · exact Bool.or_eq_true_iff.mpr (Or.inl (ih.mpr (Or.inr ⟨by omega, w.2⟩)))
    · rw [if_neg c, ih]
      constructor
      · rintro (w | w)
        · exact Or.inl w
        · exact Or.inr ⟨by omega, w.2⟩
      · rintro (w | w)
        · exact Or.inl w
        · by_cases z : i = n
          · rw [z] at w
            exact absurd w.2 c
          · exact Or.inr ⟨by omega, w.2⟩
def ost (M : Nat → Int32) (q : Nat) : Nat → Int32 → Int32
  | 0, x => x
  | n + 1, x => if bt (ost M q n x) n = true then jst M n q (ost M q n x) else ost M q n x
theorem ost_s (M : Nat → Int32) (q n : Nat) (x : Int32) : ost M q (n + 1) x = if bt (ost M q n x) n = true then jst M n q (ost M q n x) else ost M q n x := rfl
theorem ost_up (M : Nat → Int32) {q : Nat} (hq : q ≤ 32) (n : Nat) (x : Int32) (i : Nat) (h : bt (ost M q n x) i = true) : bt (ost M q (n + 1) x) i = true := by
  rw [ost_s]
  by_cases c : bt (ost M q n x) n = true
  · rw [if_pos c, jst_b M n q hq]
    exact Or.inl h
  · rw [if_neg c]; exact h
theorem ost_i (M : Nat → Int32) {q : Nat} (hq : q ≤ 32) : ∀ n, Inf (ost M q n)
  | 0, _, _, h => h
  | n + 1, x, i, h => ost_up M hq n x i (ost_i M hq n x i h)
theorem ost_l (M : Nat → Int32) {q : Nat} (hq : q ≤ 32) : ∀ n x i, bt (ost M q n x) i = true → bt x i = true ∨ ∃ c, c < q ∧ i = c
  | 0, _, _, h => Or.inl h
  | n + 1, x, i, h => by
    have ih := ost_l M hq n x i
    rw [ost_s] at h
    by_cases c : bt (ost M q n x) n = true
    · rw [if_pos c, jst_b M n q hq] at h
      rcases h with w | w
      · exact ih w
      · exact Or.inr ⟨i, w.1, rfl⟩
    · rw [if_neg c] at h
      exact ih h
theorem sh_cl {M : Nat → Int32} {s : Sg} (P : PlnR 24 s M) {a b : Nat} (ha : (a : Int) < (M 1).toInt) : shQ M a b = true ↔ ∃ h, atB M a h = true ∧ atB M b h = true := by
  unfold shQ
  constructor
  · intro w
    rcases Bool.or_eq_true_iff.mp w with w | w
    · exact ⟨_, (at_h P ha).mpr (Or.inl rfl), w⟩
    · exact ⟨_, (at_h P ha).mpr (Or.inr rfl), w⟩
  · rintro ⟨h, w1, w2⟩
    rcases (at_h P ha).mp w1 with z | z
    · rw [z] at w2
      exact Bool.or_eq_true_iff.mpr (Or.inl w2)
    · rw [z] at w2
      exact Bool.or_eq_true_iff.mpr (Or.inr w2)
theorem ost_min {M : Nat → Int32} {s : Sg} (P : PlnR 24 s M) {z : Int32} (hz : ClQ M z) : ∀ n : Nat, (n : Int) ≤ (M 1).toInt → ∀ x, (∀ i, bt x i = true → bt z i = true) → ∀ i, bt (ost M (M 1).toInt.toNat n x) i = true → bt z i = true
  | 0, _, _, g => g
  | n + 1, hn, x, g => fun i hi => by
    have b1 := P.2.1.2.1
    have ih := ost_min P hz n (by omega) x g
    rw [ost_s] at hi
    by_cases c : bt (ost M (M 1).toInt.toNat n x) n = true
    · rw [if_pos c, jst_b M n _ (by omega)] at hi
      rcases hi with w | ⟨w1, w2⟩
      · exact ih i w
      · obtain ⟨h, u1, u2⟩ := (sh_cl P (by omega)).mp w2
        exact hz n i h (by omega) (by omega) (ih n c) u1 u2
    · rw [if_neg c] at hi
      exact ih i hi
theorem ost_fx (M : Nat → Int32) {q : Nat} (hq : q ≤ 32) {x : Int32} : ∀ n, ost M q n x = x → ∀ a, a < n → bt x a = true → ∀ b, b < q → shQ M a b = true → bt x b = true
  | 0, _, a, z => absurd z (Nat.not_lt_zero a)
  | n + 1, e, a, z => by
    have en : ost M q n x = x := bt_le (fun i w => by
      have w2 := ost_up M hq n x i w
      rw [e] at w2
      exact w2) (ost_i M hq n x)
    by_cases y : a = n
    · subst y
      intro ha b hb hs
      rw [ost_s, en, if_pos ha] at e
      have w := (jst_b M a q hq x b).mpr (Or.inr ⟨hb, hs⟩)
      rw [e] at w
      exact w
    · exact ost_fx M hq n en a (by omega)
theorem ost_cl {M : Nat → Int32} {s : Sg} (P : PlnR 24 s M) {x : Int32} (h : ost M (M 1).toInt.toNat (M 1).toInt.toNat x = x) : ClQ M x := fun a b y ha hb hx h1' h2' => by
  have b1 := P.2.1.2.1
  exact ost_fx M (by omega) _ h a (by omega) hx b (by omega) ((sh_cl P ha).mpr ⟨y, h1', h2'⟩)
theorem chn_eq {M : Nat → Int32} {s : Sg} (P : PlnR 24 s M) {q : Nat} (hq : (q : Int) < (M 1).toInt) : itf (cst (s.1 34) (M 0).toInt.toNat) 8 (bitI q) = itf (ost M (M 1).toInt.toNat (M 1).toInt.toNat) 8 (bitI q) := by
  have b0 := P.2.1.1
  have b1 := P.2.1.2.1
  have i1 := cst_i (s.1 34) (M 0).toInt.toNat
  have i2 := ost_i M (q := (M 1).toInt.toNat) (by omega) (M 1).toInt.toNat
  have f1 := itf_fix i1 id (M 1).toInt.toNat (fun x i w => cst_l (s.1 34) (M 1).toInt.toNat _ x i (fun h hh j hj => by have := ((qa_b P (by omega) j).mp hj).1; omega) w) 8 (bitI q) (by have := cnp_le id (bitI q) (M 1).toInt.toNat; omega)
  have f2 := itf_fix i2 id (M 1).toInt.toNat (fun x i w => ost_l M (by omega) _ x i w) 8 (bitI q) (by have := cnp_le id (bitI q) (M 1).toInt.toNat; omega)
  have c1 := cst_cl P f1
  have c2 := ost_cl P f2
  exact bt_le (itf_min (fun x g => cst_min P c2 _ (by omega) x g) 8 (bitI q) (itf_inf i2 8 (bitI q))) (itf_min (fun x g => ost_min P c1 _ (by omega) x g) 8 (bitI q) (itf_inf i1 8 (bitI q)))
theorem chm_55 {s t : Sg} (P : PlnR 24 s (t.1 1)) {k : Int32 → Int32 → Int32 → Sg → Option (Int32 × Sg)} {Q : Int32 → Sg → Prop} {v4 : Int32} {a : Nat} (h4 : v4.toInt = (a : Int)) (ha : (a : Int) < (t.1 1 1).toInt) (v3 x0 : Int32) (hk : PQ (k (jst (t.1 1) a (t.1 1 1).toInt.toNat x0) v3 (v4 + 1) t) Q) (m : Nat) : ∀ (i : Nat) (v2 v5 : Int32), v5.toInt = (i : Int) → (i : Int) ≤ (t.1 1 1).toInt → v2 = jst (t.1 1) a i x0 → PQ (f_X12_chain_b55 k m v2 v3 v4 v5 t) Q := by
  induction m with
  | zero => intro i v2 v5 _ _ _ r s' z; cases z
  | succ m ih =>
    intro i v2 v5 h5 hi h2
    have e1 : (1 : Int32).toInt = 1 := rfl
    have b1 := P.2.1.2.1
    have en := ends_h P ha
    have x := qr_x h4 en.2.2.2.2
    unfold f_X12_chain_b55
    refine pq_if (fun c => ?_) (fun c => ?_)
    · have c := i_le c
      have z : (t.1 1 1).toInt.toNat = i := by omega
      rw [z, ← h2] at hk
      exact hk
    · have c := i_nle c
      have i8 : i < 8 := by omega
      have a5 : (v5 + 1).toInt = ((i + 1 : Nat) : Int) := by rw [i_addx _ _ (by omega)]; omega
      have yes : ∀ x18 : Int32, shQ (t.1 1) a i = true → x18 = v2 ||| ((1 : Int32) <<< (v5 &&& 31)) → PQ (f_X12_chain_b55 k m x18 v3 v4 (v5 + 1) t) Q := fun x18 w e => ih (i + 1) x18 (v5 + 1) a5 (by omega) (by rw [jst_s, if_pos w, e, bitI_v h5 (by omega), h2])
      refine pq_b (qh_p v4 0 t) (fun r8 t9 g => pq_c (fun _ => ?_))
      obtain ⟨et, g⟩ := g
      subst et
      rw [g, x.1]
      refine pq_b (isAt_m h5 i8 en.1.1 t9) (fun r11 t12 k1 => ?_)
      obtain ⟨et, k1⟩ := k1
      subst et
      refine pq_if (fun d => pq_b (qh_p v4 1 t12) (fun r13 t14 g => pq_c (fun _ => ?_))) (fun d => pq_n (fun x19 e => yes x19 (Bool.or_eq_true_iff.mpr (Or.inl (r1_y k1 d))) e))
      obtain ⟨et, g⟩ := g
      subst et
      rw [g, x.2.1]
      refine pq_b (isAt_m h5 i8 en.1.2 t14) (fun r16 t17 k2 => ?_)
      obtain ⟨et, k2⟩ := k2
      subst et
      refine pq_if (fun f => ih (i + 1) v2 (v5 + 1) a5 (by omega) ?_) (fun f => pq_n (fun x18 e => yes x18 (Bool.or_eq_true_iff.mpr (Or.inr (r1_y k2 f))) e))
      rw [jst_s, if_neg (show ¬ shQ (t17.1 1) a i = true from fun w => (Bool.or_eq_true_iff.mp w).elim (r1_n k1 d) (r1_n k2 f))]
      exact h2
theorem chm_29 {s t : Sg} (P : PlnR 24 s (t.1 1)) {k : Int32 → Int32 → Sg → Option (Int32 × Sg)} {Q : Int32 → Sg → Prop} (v3 x0 : Int32) (hk : PQ (k (ost (t.1 1) (t.1 1 1).toInt.toNat (t.1 1 1).toInt.toNat x0) (v3 + 1) t) Q) (m : Nat) : ∀ (i : Nat) (v2 v4 : Int32), v4.toInt = (i : Int) → (i : Int) ≤ (t.1 1 1).toInt → v2 = ost (t.1 1) (t.1 1 1).toInt.toNat i x0 → PQ (f_X12_chain_b29 k m v2 v3 v4 t) Q := by
  induction m with
  | zero => intro i v2 v4 _ _ _ r s' z; cases z
  | succ m ih =>
    intro i v2 v4 h4 hi h2
    have e1 : (1 : Int32).toInt = 1 := rfl
    have b1 := P.2.1.2.1
    unfold f_X12_chain_b29
    refine pq_if (fun c => ?_) (fun c => ?_)
    · have c := i_le c
      have z : (t.1 1 1).toInt.toNat = i := by omega
      have e : ost (t.1 1) (t.1 1 1).toInt.toNat (t.1 1 1).toInt.toNat x0 = v2 := by rw [h2]; exact congrArg (fun j => ost (t.1 1) (t.1 1 1).toInt.toNat j x0) z
      rw [e] at hk
      exact hk
    · have c := i_nle c
      have a4 : (v4 + 1).toInt = ((i + 1 : Nat) : Int) := by rw [i_addx _ _ (by omega)]; omega
      have sh := sh1_0 v2 v4 h4 (by omega)
      refine pq_if (fun d => ih (i + 1) v2 (v4 + 1) a4 (by omega) ?_) (fun d => chm_55 P h4 (by omega) v3 v2 (ih (i + 1) _ (v4 + 1) a4 (by omega) ?_) BIG 0 v2 0 rfl b1.1 rfl)
      · rw [ost_s, if_neg (by rw [← h2]; exact sh.mp d)]
        exact h2
      · rw [ost_s, if_pos (by rw [← h2]; exact Classical.byContradiction (fun z => d (sh.mpr z))), ← h2]
theorem chm_20 {s t : Sg} (P : PlnR 24 s (t.1 1)) (x0 : Int32) (m : Nat) : ∀ (j : Nat) (v2 v3 : Int32), v3.toInt = (j : Int) → j ≤ 8 → itf (ost (t.1 1) (t.1 1 1).toInt.toNat (t.1 1 1).toInt.toNat) (8 - j) v2 = itf (ost (t.1 1) (t.1 1 1).toInt.toNat (t.1 1 1).toInt.toNat) 8 x0 → PQ (f_X12_chain_b20 m v2 v3 t) (fun r t' => t'.1 0 2 = 0 ∧ r = itf (ost (t.1 1) (t.1 1 1).toInt.toNat (t.1 1 1).toInt.toNat) 8 x0) := by
  induction m with
  | zero => intro j v2 v3 _ _ _ r s' z; cases z
  | succ m ih =>
    intro j v2 v3 h3 hj h2
    have e1 : (1 : Int32).toInt = 1 := rfl
    have e8 : (8 : Int32).toInt = 8 := rfl
    unfold f_X12_chain_b20
    refine pq_if (fun c => ?_) (fun c => chm_29 P v3 v2 ?_ BIG 0 v2 0 rfl P.2.1.2.1.1 rfl)
    · have c := i_le c
      have z : j = 8 := by omega
      rw [z] at h2
      have q : PQ (some (v2, pI t 0 2 0)) (fun r t' => t'.1 0 2 = 0 ∧ r = itf (ost (t.1 1) (t.1 1 1).toInt.toNat (t.1 1 1).toInt.toNat) 8 x0) := pq_s ⟨q_eq, h2⟩
      exact q
    · have c := i_nle c
      refine ih (j + 1) _ (v3 + 1) (by rw [i_addx _ _ (by omega)]; omega) (by omega) ?_
      rw [← h2, show 8 - j = (8 - (j + 1)) + 1 by omega]
      rfl
def QsM (M : Nat → Int32) (a : Int32) : Prop := 0 ≤ a.toInt ∧ a.toInt < (M 1).toInt
theorem isQ_c {M : Nat → Int32} {s : Sg} (P : PlnR 24 s M) (a : Int32) : PQ (f_X11_isQuarrel a s) (fun r s' => s' = s ∧ Fl (QsM M a) r) := by
  have e : s.1 25 14 = M 1 := P.1.2.1
  have b := P.2.1.2.1
  have e0 : (0 : Int32).toInt = 0 := rfl
  have e1 : (1 : Int32).toInt = 1 := rfl
  have sb := i_sub (s.1 25 14) 1
  unfold f_X11_isQuarrel
  refine pq_b (wi_p a 0 ((s.1 25 14) - 1) s) (fun r s2 g => pq_c (fun _ => pq_s ⟨g.1, ?_⟩))
  rw [e] at sb g
  unfold Fl QsM
  rcases g.2 with q | q
  · exact Or.inl ⟨q.1, by omega, by omega⟩
  · exact Or.inr ⟨q.1, by omega⟩
theorem isQ_m (a : Int32) (t : Sg) : PQ (f_X12_isQuarrel a t) (fun r t' => t' = t ∧ Fl (QsM (t.1 1) a) r) := by
  have e0 : (0 : Int32).toInt = 0 := rfl
  unfold f_X12_isQuarrel Fl QsM
  refine pq_if (fun c => pq_s ⟨rfl, Or.inr ⟨rfl, ?_⟩⟩) (fun c => pq_if (fun d => pq_s ⟨rfl, Or.inr ⟨rfl, ?_⟩⟩) (fun d => pq_s ⟨rfl, Or.inl ⟨rfl, ?_⟩⟩))
  · have := i_lt c
    omega
  · have := i_le d
    omega
  · have := i_nlt c
    have := i_nle d
    omega
theorem chain_q {s t : Sg} (P : PlnR 24 s (t.1 1)) (a : Int32) : RQ (f_X11_chain a s) (f_X12_chain a t) AnQ := by
  have b1 := P.2.1.2.1
  unfold f_X11_chain f_X12_chain
  refine rq_f (isQ_c P a) (isQ_m a t) Iff.rfl (fun hq => ?_) (fun _ => ?_)
  · rw [if_neg i10, if_neg i10]
    unfold QsM at hq
    have ha : a.toInt = (a.toInt.toNat : Int) := by omega
    unfold f_X4_joinedTo
    rw [bitI_v ha (by omega)]
    refine rq_bC (P := fun r s' => s' = s ∧ r = itf (cst (s.1 34) (t.1 1 0).toInt.toNat) 8 (bitI a.toInt.toNat)) (pq_n (fun x1 e => ?_)) (fun r3 s4 g => rq_nM (fun x3 e3 => ?_))
    · rw [e]
      exact chn_6 P _ BIG 0 _ 0 rfl (by decide) rfl
    · obtain ⟨es, g⟩ := g
      subst es
      rw [e3]
      have q : RQ (some (r3, pI s4 0 15 0)) (f_X12_chain_b20 BIG (bitI a.toInt.toNat) 0 t) AnQ := rq_pp (P := fun r s' => r = r3 ∧ s'.1 0 15 = 0) (pq_s ⟨rfl, q_eq⟩) (chm_20 P (bitI a.toInt.toNat) BIG 0 _ 0 rfl (by decide) rfl) (fun r s r' t' x y => ⟨by rw [x.1, g, y.2]; exact chn_eq P (by omega), x.2.trans y.1.symm⟩)
      exact q
  · rw [if_pos rfl, if_pos rfl]
    exact aq_rf s t 1
