/-! peace, a night -/
theorem qr_x {a : Int32} {q : Nat} (ha : a.toInt = (q : Int)) (hq : q < 8) : ((40 + 5 * a) + 0).toNatClampNeg = 40 + 5 * q ∧ ((40 + 5 * a) + 1).toNatClampNeg = 41 + 5 * q ∧ ((40 + 5 * a) + 2).toNatClampNeg = 42 + 5 * q ∧ ((40 + 5 * a) + 3).toNatClampNeg = 43 + 5 * q ∧ ((40 + 5 * a) + 4).toNatClampNeg = 44 + 5 * q := by
  have e5 : (5 : Int32).toInt = 5 := rfl
  have e40 : (40 : Int32).toInt = 40 := rfl
  have e0 : (0 : Int32).toInt = 0 := rfl
  have e1 : (1 : Int32).toInt = 1 := rfl
  have e2 : (2 : Int32).toInt = 2 := rfl
  have e3 : (3 : Int32).toInt = 3 := rfl
  have e4 : (4 : Int32).toInt = 4 := rfl
  have m1 : (5 * a).toInt = 5 * a.toInt := i_mulx 5 a (show -2147483648 ≤ 5 * a.toInt ∧ 5 * a.toInt ≤ 2147483647 from by omega)
  have x : (40 + 5 * a).toInt = (40 : Int32).toInt + (5 * a).toInt := i_addx _ _ (by omega)
  have x0 : ((40 + 5 * a) + 0).toInt = (40 + 5 * a).toInt + (0 : Int32).toInt := i_addx _ _ (by omega)
  have x1 : ((40 + 5 * a) + 1).toInt = (40 + 5 * a).toInt + (1 : Int32).toInt := i_addx _ _ (by omega)
  have x2 : ((40 + 5 * a) + 2).toInt = (40 + 5 * a).toInt + (2 : Int32).toInt := i_addx _ _ (by omega)
  have x3 : ((40 + 5 * a) + 3).toInt = (40 + 5 * a).toInt + (3 : Int32).toInt := i_addx _ _ (by omega)
  have x4 : ((40 + 5 * a) + 4).toInt = (40 + 5 * a).toInt + (4 : Int32).toInt := i_addx _ _ (by omega)
  exact ⟨cl_h (by omega), cl_h (by omega), cl_h (by omega), cl_h (by omega), cl_h (by omega)⟩
/-- what a quarrel needs; one may need nothing -/
def nd (M : Nat → Int32) (e : Int) (q : Nat) : Int32 := if (q : Int) = e then 0 else M (42 + 5 * q)
def atB (M : Nat → Int32) (q h : Nat) : Bool := decide ((M (40 + 5 * q)).toInt = (h : Int) ∨ (M (41 + 5 * q)).toInt = (h : Int))
def sgM (M : Nat → Int32) (h : Nat) : Int32 := if M (18 + 3 * h) ≤ 0 then lyM M h else 0
/-- what is left of so many grains ahead of a quarrel -/
def lf (M : Nat → Int32) (e : Int) (h : Nat) (g : Int32) : Nat → Int32
  | 0 => g
  | n + 1 => if atB M n h = true then lf M e h g n - (if nd M e n < lf M e h g n then nd M e n else lf M e h g n) else lf M e h g n
theorem lf_s (M : Nat → Int32) (e : Int) (h : Nat) (g : Int32) (n : Nat) : lf M e h g (n + 1) = if atB M n h = true then lf M e h g n - (if nd M e n < lf M e h g n then nd M e n else lf M e h g n) else lf M e h g n := rfl
def flB (M : Nat → Int32) (e : Int) (q h : Nat) (g : Int32) : Bool := if bt (M 9) h = true then decide (M 14 = 1) else decide (¬ lf M e h g q < nd M e q)
def h0 (M : Nat → Int32) (q : Nat) : Nat := (M (40 + 5 * q)).toInt.toNat
def h1 (M : Nat → Int32) (q : Nat) : Nat := (M (41 + 5 * q)).toInt.toNat
def pcB (M : Nat → Int32) (e : Int) (q : Nat) : Bool := flB M e q (h0 M q) (sgM M (h0 M q)) && flB M e q (h1 M q) (sgM M (h1 M q))
theorem qrow_p (a : Int32) (t : Sg) : PQ (f_X12_quarrelRow a t) (fun r t' => t' = t ∧ r = 40 + 5 * a) := pq_s ⟨rfl, rfl⟩
theorem qh_p (a b : Int32) (t : Sg) : PQ (f_X12_quarrelHouse a b t) (fun r t' => t' = t ∧ r = (40 + 5 * a) + b) := pq_s ⟨rfl, rfl⟩
theorem need_m {a : Int32} {q : Nat} (ha : a.toInt = (q : Int)) (hq : q < 8) (t : Sg) : PQ (f_X12_needOf a t) (fun r t' => t' = t ∧ r = nd (t.1 1) (t.1 0 24).toInt q) := by
  unfold f_X12_needOf nd
  refine pq_if (fun c => pq_s ⟨rfl, ?_⟩) (fun c => pq_b (qrow_p a t) (fun r1 t2 k => pq_c (fun _ => pq_s ?_)))
  · rw [if_pos (by rw [← ha]; exact i_eq c)]
  · obtain ⟨et, k⟩ := k
    subst et
    rw [if_neg (by rw [← ha]; exact i_ne c), k, (qr_x ha hq).2.2.1]
    exact ⟨rfl, rfl⟩
theorem isAt_m {a b : Int32} {q h : Nat} (ha : a.toInt = (q : Int)) (hq : q < 8) (hb : b.toInt = (h : Int)) (t : Sg) : PQ (f_X12_isAt a b t) (fun r t' => t' = t ∧ Fl (atB (t.1 1) q h = true) r) := by
  have x := qr_x ha hq
  unfold f_X12_isAt
  refine pq_b (qh_p a 0 t) (fun r1 t2 k => pq_c (fun _ => ?_))
  obtain ⟨et, k⟩ := k
  subst et
  rw [k, x.1]
  refine pq_if (fun c => pq_s ⟨rfl, Or.inl ⟨rfl, ?_⟩⟩) (fun c => pq_b (qh_p a 1 t2) (fun r4 t5 l => pq_c (fun _ => ?_)))
  · exact decide_eq_true (Or.inl ((i_eq c).trans hb))
  · obtain ⟨et, l⟩ := l
    subst et
    rw [l, x.2.1]
    refine pq_if (fun d => pq_s ⟨rfl, Or.inl ⟨rfl, decide_eq_true (Or.inr ((i_eq d).trans hb))⟩⟩) (fun d => pq_s ⟨rfl, Or.inr ⟨rfl, fun w => ?_⟩⟩)
    rcases of_decide_eq_true w with w | w
    · exact i_ne c (w.trans hb.symm)
    · exact i_ne d (w.trans hb.symm)
theorem sub0 (a : Int32) : a - 0 = a := Int32.toInt_inj.mp (by
  have := i_sub a 0
  have e0 : (0 : Int32).toInt = 0 := rfl
  have b := Int32.toInt_lt a
  have c := Int32.le_toInt a
  omega)
theorem has_b {a b : Int32} {q h : Nat} (ha : a.toInt = (q : Int)) (hq : q < 8) (hb : b.toInt = (h : Int)) (g : Int32) (t : Sg) (m : Nat) : ∀ (i : Nat) (v3 v4 : Int32), v4.toInt = (i : Int) → i ≤ q → v3 = lf (t.1 1) (t.1 0 24).toInt h g i → PQ (f_X12_hasAt_b27 m a b v3 v4 t) (fun r t' => t' = t ∧ r = if nd (t.1 1) (t.1 0 24).toInt q < lf (t.1 1) (t.1 0 24).toInt h g q then nd (t.1 1) (t.1 0 24).toInt q else lf (t.1 1) (t.1 0 24).toInt h g q) := by
  induction m with
  | zero => intro i v3 v4 _ _ _ r t' e; cases e
  | succ m ih =>
    intro i v3 v4 h4 hi h3
    have e1 : (1 : Int32).toInt = 1 := rfl
    have a4 : (v4 + 1).toInt = v4.toInt + 1 := i_addx v4 1 (by omega)
    unfold f_X12_hasAt_b27
    refine pq_if (fun c => pq_b (need_m ha hq t) (fun r6 t7 k => pq_s ?_)) (fun c => pq_b (isAt_m h4 (by omega) hb t) (fun r8 t9 k => ?_))
    · obtain ⟨et, k⟩ := k
      subst et
      have c := i_le c
      have z : i = q := by omega
      subst z
      rw [k, h3]
      exact ⟨rfl, rfl⟩
    · obtain ⟨et, k⟩ := k
      subst et
      have c := i_nle c
      refine pq_if (fun d => ih (i + 1) (v3 - 0) (v4 + 1) (by omega) (by omega) ?_) (fun d => pq_b (need_m h4 (by omega) t9) (fun r10 t11 l => pq_n (fun x12 ex => ?_)))
      · rw [lf_s, if_neg (r1_n k d), sub0]
        exact h3
      · obtain ⟨et, l⟩ := l
        subst et
        refine ih (i + 1) x12 (v4 + 1) (by omega) (by omega) ?_
        rw [lf_s, if_pos (r1_y k d), ex, l, h3]
def hsM (M : Nat → Int32) (e : Int) (q h : Nat) : Int32 := if nd M e q < lf M e h (sgM M h) q then nd M e q else lf M e h (sgM M h) q
theorem has_m {a b : Int32} {q h : Nat} (ha : a.toInt = (q : Int)) (hq : q < 8) (hb : b.toInt = (h : Int)) (hh : h < 8) (t : Sg) : PQ (f_X12_hasAt a b t) (fun r t' => t' = t ∧ r = hsM (t.1 1) (t.1 0 24).toInt q h) := by
  unfold f_X12_hasAt
  refine pq_b (hr_p b t) (fun r1 t2 k => pq_c (fun _ => ?_))
  obtain ⟨et, k⟩ := k
  subst et
  rw [k, (hr_x hb hh).2.2]
  unfold hsM
  refine pq_if (fun c => pq_b (grains_m hb hh t2) (fun r4 t5 l => ?_)) (fun c => ?_)
  · obtain ⟨et, l⟩ := l
    subst et
    have w : sgM (t5.1 1) h = r4 := by
      unfold sgM
      rw [if_pos c, l]
    rw [w]
    exact has_b ha hq hb r4 t5 BIG 0 r4 0 rfl (Nat.zero_le _) rfl
  · have w : sgM (t2.1 1) h = 0 := by
      unfold sgM
      rw [if_neg c]
    rw [w]
    exact has_b ha hq hb 0 t2 BIG 0 0 0 rfl (Nat.zero_le _) rfl
theorem min_eq {a b : Int32} : (if a < b then a else b) = a ↔ ¬ b < a := by
  by_cases c : a < b
  · have c' := i_lt c
    rw [if_pos c]
    exact ⟨fun _ z => by have := i_lt z; omega, fun _ => rfl⟩
  · rw [if_neg c]
    have c' := i_nlt c
    constructor
    · intro e z
      have := i_lt z
      rw [e] at this
      omega
    · intro z
      have := i_nlt z
      exact Int32.toInt_inj.mp (by omega)
theorem full_m {a b : Int32} {q j : Nat} (ha : a.toInt = (q : Int)) (hq : q < 8) (hj : (b = 0 ∧ j = 40 + 5 * q) ∨ (b = 1 ∧ j = 41 + 5 * q)) (t : Sg) (hb : 0 ≤ (t.1 1 j).toInt ∧ (t.1 1 j).toInt < 8) : PQ (f_X12_isFull a b t) (fun r t' => t' = t ∧ Fl (flB (t.1 1) (t.1 0 24).toInt q (t.1 1 j).toInt.toNat (sgM (t.1 1) (t.1 1 j).toInt.toNat) = true) r) := by
  have x := qr_x ha hq
  have hn : (t.1 1 j).toInt = ((t.1 1 j).toInt.toNat : Int) := by omega
  have h8 : (t.1 1 j).toInt.toNat < 8 := by omega
  unfold f_X12_isFull
  refine pq_b (qh_p a b t) (fun r1 t2 k => pq_c (fun _ => ?_))
  obtain ⟨et, k⟩ := k
  subst et
  have dj : r1.toNatClampNeg = j := by
    rw [k]
    rcases hj with w | w
    · rw [w.1, w.2]; exact x.1
    · rw [w.1, w.2]; exact x.2.1
  rw [dj]
  refine pq_b (gone_m hn (by omega) t2) (fun r4 t5 g => ?_)
  obtain ⟨et, g⟩ := g
  subst et
  unfold flB
  refine pq_if (fun c => pq_b (has_m ha hq hn h8 t5) (fun r6 t7 l => pq_b (need_m ha hq t7) (fun r8 t9 n => ?_))) (fun c => ?_)
  · obtain ⟨et, l⟩ := l
    obtain ⟨eu, n⟩ := n
    subst et
    subst eu
    rw [if_neg (r1_n g c), l, n]
    unfold hsM
    exact pq_fl ⟨fun w => decide_eq_true (min_eq.mp w), fun w => min_eq.mpr (of_decide_eq_true w)⟩
  · rw [if_pos (r1_y g c)]
    exact pq_fl ⟨fun w => decide_eq_true w, fun w => of_decide_eq_true w⟩
def EndsM (M : Nat → Int32) (q : Nat) : Prop := (0 ≤ (M (40 + 5 * q)).toInt ∧ (M (40 + 5 * q)).toInt < 8) ∧ (0 ≤ (M (41 + 5 * q)).toInt ∧ (M (41 + 5 * q)).toInt < 8)
theorem peace_m {a : Int32} {q : Nat} (ha : a.toInt = (q : Int)) (hq : q < 8) (t : Sg) (hb : EndsM (t.1 1) q) : PQ (f_X12_hasPeace a t) (fun r t' => t' = t ∧ Fl (pcB (t.1 1) (t.1 0 24).toInt q = true) r) := by
  unfold f_X12_hasPeace
  refine pq_b (full_m ha hq (Or.inl ⟨rfl, rfl⟩) t hb.1) (fun r1 t2 k => ?_)
  obtain ⟨et, k⟩ := k
  subst et
  unfold pcB
  refine pq_if (fun c => pq_s ⟨rfl, Or.inr ⟨rfl, fun w => r1_n k c (Bool.and_eq_true_iff.mp w).1⟩⟩) (fun c => pq_b (full_m ha hq (Or.inr ⟨rfl, rfl⟩) t2 hb.2) (fun r3 t4 l => ?_))
  obtain ⟨et, l⟩ := l
  subst et
  exact pq_if (fun d => pq_s ⟨rfl, Or.inr ⟨rfl, fun w => r1_n l d (Bool.and_eq_true_iff.mp w).2⟩⟩) (fun d => pq_s ⟨rfl, Or.inl ⟨rfl, Bool.and_eq_true_iff.mpr ⟨r1_y k c, r1_y l d⟩⟩⟩)
/-! peace, as the class has it -/
theorem pln_q {M : Nat → Int32} {s : Sg} (P : PlnR 24 s M) {q : Nat} (hq : (q : Int) < (M 1).toInt) : q < 8 ∧ (s.1 31 q = M (40 + 5 * q) ∧ s.1 32 q = M (41 + 5 * q) ∧ s.1 33 q = M (42 + 5 * q)) ∧ EndsM M q ∧ ((M (40 + 5 * q)).toInt < (M 0).toInt ∧ (M (41 + 5 * q)).toInt < (M 0).toInt) ∧ ¬ M (40 + 5 * q) = M (41 + 5 * q) := by
  have b := P.2.1
  have w := P.2.2.2.1 q hq
  have w1 : s.1 31 q = M (40 + 5 * q) := w.1.1
  have w2 : s.1 32 q = M (41 + 5 * q) := w.1.2.1
  have w3 : s.1 33 q = M (42 + 5 * q) := w.1.2.2
  have c1 : 0 ≤ (s.1 31 q).toInt ∧ (s.1 31 q).toInt < (M 0).toInt := w.2.1
  have c2 : 0 ≤ (s.1 32 q).toInt ∧ (s.1 32 q).toInt < (M 0).toInt := w.2.2.1
  have c3 : ¬ s.1 31 q = s.1 32 q := w.2.2.2
  rw [w1] at c1 c3
  rw [w2] at c2 c3
  unfold EndsM
  exact ⟨by omega, ⟨w1, w2, w3⟩, ⟨⟨by omega, by omega⟩, by omega, by omega⟩, ⟨by omega, by omega⟩, c3⟩
theorem qa_b {M : Nat → Int32} {s : Sg} (P : PlnR 24 s M) {h : Nat} (hh : h < 8) (i : Nat) : bt (s.1 34 h) i = true ↔ ((i : Int) < (M 1).toInt ∧ atB M i h = true) := by
  have b := P.2.1.2.1
  have e : s.1 34 h = qat (s.1 31) (s.1 32) (M 1).toInt.toNat h := P.2.2.2.2.1 h hh
  rw [e, bt_qat _ _ _ _ _ (by omega)]
  unfold atB
  constructor
  · intro w
    have w := of_decide_eq_true w
    have hi : (i : Int) < (M 1).toInt := by omega
    have q := pln_q P hi
    rw [q.2.1.1, q.2.1.2.1] at w
    exact ⟨hi, decide_eq_true w.2⟩
  · intro w
    have q := pln_q P w.1
    refine decide_eq_true ⟨by omega, ?_⟩
    rw [q.2.1.1, q.2.1.2.1]
    exact of_decide_eq_true w.2
theorem isAt_c {M : Nat → Int32} {s : Sg} (P : PlnR 24 s M) {a b : Int32} {q h : Nat} (ha : a.toInt = (q : Int)) (hq : q < 8) (hb : b.toInt = (h : Int)) (hh : h < 8) : PQ (f_X4_isAt a b s) (fun r s' => s' = s ∧ Fl ((q : Int) < (M 1).toInt ∧ atB M q h = true) r) := by
  unfold f_X4_isAt
  refine pq_c (fun _ => ?_)
  rw [cl_h hb]
  exact pq_f0 ⟨fun w z => (sh1_0 _ a ha (by omega)).mp w ((qa_b P hh q).mpr z), fun w => (sh1_0 _ a ha (by omega)).mpr (fun z => w ((qa_b P hh q).mp z))⟩
theorem cont_b {M : Nat → Int32} {s : Sg} (P : PlnR 24 s M) {a : Int32} {h : Nat} (ha : a.toInt = (h : Int)) (hh : h < 8) (e g : Int32) (m : Nat) : ∀ (i : Nat) (v4 v5 v6 : Int32), v6.toInt = (i : Int) → i ≤ 8 → (i : Int) ≤ (M 1).toInt → v5 = lf M e.toInt h g i → (∀ x, x < 32 → (bt v4 x = true ↔ (x < i ∧ atB M x h = true ∧ ¬ lf M e.toInt h g x < nd M e.toInt x))) → PQ (f_X9_contentAt_25_b35 m a e v4 v5 v6 s) (fun r s' => s' = s ∧ ∀ x, x < 32 → (bt r x = true ↔ ((x : Int) < (M 1).toInt ∧ atB M x h = true ∧ ¬ lf M e.toInt h g x < nd M e.toInt x))) := by
  induction m with
  | zero => intro i v4 v5 v6 _ _ _ _ _ r s' q; cases q
  | succ m ih =>
    intro i v4 v5 v6 h6 hi hQ h5 h4
    have e1 : (1 : Int32).toInt = 1 := rfl
    have a6 : (v6 + 1).toInt = v6.toInt + 1 := i_addx v6 1 (by omega)
    have eQ : s.1 25 14 = M 1 := P.1.2.1
    unfold f_X9_contentAt_25_b35
    rw [eQ]
    refine pq_if (fun c => pq_s ⟨rfl, fun x hx => ?_⟩) (fun c => ?_)
    · have c := i_le c
      rw [h4 x hx]
      constructor
      · intro w; exact ⟨by omega, w.2⟩
      · intro w; exact ⟨by omega, w.2⟩
    · have c := i_nle c
      have hi' : (i : Int) < (M 1).toInt := by omega
      have pq := pln_q P hi'
      refine pq_b (isAt_c P h6 (by omega) ha hh) (fun r3 s4 k => ?_)
      obtain ⟨es, k⟩ := k
      subst es
      have nx : ∀ (t0 v4' v5' : Int32), t0 = nd M e.toInt i → atB M i h = true → v5' = v5 - (if t0 < v5 then t0 else v5) → (∀ x, x < 32 → (bt v4' x = true ↔ (bt v4 x = true ∨ (x = i ∧ ¬ v5 < t0)))) → PQ (f_X9_contentAt_25_b35 m a e v4' v5' (v6 + 1) s4) (fun r s' => s' = s4 ∧ ∀ x, x < 32 → (bt r x = true ↔ ((x : Int) < (M 1).toInt ∧ atB M x h = true ∧ ¬ lf M e.toInt h g x < nd M e.toInt x))) := fun t0 v4' v5' ht hat h5' h4' => by
        refine ih (i + 1) v4' v5' (v6 + 1) (by omega) (by omega) (by omega) ?_ (fun x hx => ?_)
        · rw [lf_s, if_pos hat, h5', ht, h5]
        · rw [h4' x hx, h4 x hx, ht, h5]
          constructor
          · rintro (w | w)
            · exact ⟨by omega, w.2⟩
            · obtain ⟨w1, w2⟩ := w
              subst w1
              exact ⟨by omega, hat, w2⟩
          · intro w
            by_cases z : x = i
            · subst z
              exact Or.inr ⟨rfl, w.2.2⟩
            · exact Or.inl ⟨by omega, w.2⟩
      have st : ∀ t0 : Int32, t0 = nd M e.toInt i → atB M i h = true → PQ (f_X9_contentAt_25_b71 (f_X9_contentAt_25_b35 m) a e v4 v5 v6 t0 s4) (fun r s' => s' = s4 ∧ ∀ x, x < 32 → (bt r x = true ↔ ((x : Int) < (M 1).toInt ∧ atB M x h = true ∧ ¬ lf M e.toInt h g x < nd M e.toInt x))) := fun t0 ht hat => by
        unfold f_X9_contentAt_25_b71
        refine pq_if (fun d => pq_n (fun x5 e5 => nx t0 v4 x5 ht hat e5 (fun x hx => ⟨fun w => Or.inl w, fun w => w.elim id (fun y => absurd d y.2)⟩))) (fun d => pq_n (fun x6 e6 => pq_n (fun x7 e7 => nx t0 x6 x7 ht hat e7 (fun x hx => ?_))))
        rw [e6, bt_or, bitI_v h6 (by omega), bt_bit (by omega)]
        constructor
        · intro w
          rcases Bool.or_eq_true_iff.mp w with w | w
          · exact Or.inl w
          · exact Or.inr ⟨of_decide_eq_true w, d⟩
        · rintro (w | w)
          · exact Bool.or_eq_true_iff.mpr (Or.inl w)
          · exact Bool.or_eq_true_iff.mpr (Or.inr (decide_eq_true w.1))
      refine pq_if (fun d => ?_) (fun d => pq_if (fun f => st 0 ?_ (r1_y k d).2) (fun f => pq_c (fun _ => st _ ?_ (r1_y k d).2)))
      · refine ih (i + 1) v4 v5 (v6 + 1) (by omega) (by omega) (by omega) ?_ (fun x hx => ?_)
        · rw [lf_s, if_neg (fun z => r1_n k d ⟨hi', z⟩)]
          exact h5
        · rw [h4 x hx]
          constructor
          · intro w; exact ⟨by omega, w.2⟩
          · intro w
            by_cases z : x = i
            · subst z
              exact absurd ⟨hi', w.2.1⟩ (r1_n k d)
            · exact ⟨by omega, w.2⟩
      · unfold nd
        rw [if_pos (by rw [← h6]; exact i_eq f)]
      · unfold nd
        rw [if_neg (by rw [← h6]; exact i_ne f), cl_h h6]
        exact pq.2.1.2.2
theorem cont_c {M : Nat → Int32} {s : Sg} (P : PlnR 24 s M) (B : PlB M) {a : Int32} {h : Nat} (ha : a.toInt = (h : Int)) (hh : h < 8) (g e : Int32) : PQ (f_X9_contentAt_25 a g e s) (fun r s' => s' = s ∧ ∀ x, x < 32 → (bt r x = true ↔ ((x : Int) < (M 1).toInt ∧ atB M x h = true ∧ flB M e.toInt x h g = true))) := by
  unfold f_X9_contentAt_25
  refine pq_b (gone_c P ha (by omega)) (fun r1 s2 k => ?_)
  obtain ⟨es, k⟩ := k
  subst es
  have e19 : s2.1 25 19 = M 14 := P.2.2.1.2.2
  have b1 := P.2.1.2.1
  refine pq_if (fun c => pq_w (cont_b P ha hh e g BIG 0 0 g 0 rfl (by decide) b1.1 rfl (fun x _ => ?_)) (fun r s' w => ⟨w.1, fun x hx => ?_⟩)) (fun c => ?_)
  · rw [bt_0]
    exact ⟨fun z => absurd z (by decide), fun z => absurd z.1 (Nat.not_lt_zero _)⟩
  · rw [w.2 x hx]
    unfold flB
    rw [if_neg (r1_n k c)]
    exact ⟨fun z => ⟨z.1, z.2.1, decide_eq_true z.2.2⟩, fun z => ⟨z.1, z.2.1, of_decide_eq_true z.2.2⟩⟩
  · have gn := r1_y k c
    have fe : ∀ x, flB M e.toInt x h g = decide (M 14 = 1) := fun x => by
      unfold flB
      rw [if_pos gn]
    refine pq_if (fun d => pq_s ⟨rfl, fun x hx => ?_⟩) (fun d => pq_c (fun _ => pq_s ⟨rfl, fun x hx => ?_⟩))
    · rw [bt_0, fe]
      refine ⟨fun z => absurd z (by decide), fun z => ?_⟩
      have z := of_decide_eq_true z.2.2
      rw [← e19, d] at z
      exact absurd z (by decide)
    · rw [cl_h ha, qa_b P hh, fe]
      have m14 : M 14 = 1 := by
        rcases B.2.2.2.2.2 with z | z
        · exact absurd (e19.trans z) d
        · exact z
      exact ⟨fun z => ⟨z.1, z.2, decide_eq_true m14⟩, fun z => ⟨z.1, z.2.1⟩⟩
theorem allq_c {M : Nat → Int32} {s : Sg} (P : PlnR 24 s M) : PQ (f_X4_allQuarrels s) (fun r s' => s' = s ∧ ∀ x, x < 32 → (bt r x = true ↔ (x : Int) < (M 1).toInt)) := by
  have b1 := P.2.1.2.1
  have eQ : s.1 25 14 = M 1 := P.1.2.1
  unfold f_X4_allQuarrels
  refine pq_s ⟨rfl, fun x hx => ?_⟩
  have e : s.1 25 14 = Int32.ofNat (M 1).toInt.toNat := of_nat (by rw [eQ]; omega) (by omega)
  rw [e]
  have d : ∀ n, n < 9 → ∀ x, x < 32 → (bt (((1 : Int32) <<< ((Int32.ofNat n) &&& 31)) - 1) x = true ↔ x < n) := by decide +kernel
  rw [d (M 1).toInt.toNat (by omega) x hx]
  omega
theorem sight_c {M : Nat → Int32} {s : Sg} (G : GrdT 0 s M) {a : Int32} {h : Nat} (ha : a.toInt = (h : Int)) (hh : h < 8) : PQ (f_X2_inSight a s) (fun r s' => s' = s ∧ r = sgM M h) := by
  have e3 : s.1 42 h = M (18 + 3 * h) := G 42 h _ (Or.inl ⟨hh, Or.inr (Or.inr (Or.inl ⟨rfl, rfl⟩))⟩)
  unfold f_X2_inSight sgM
  refine pq_c (fun _ => ?_)
  rw [cl_h ha, e3]
  refine pq_if (fun c => pq_b (ly_c G ha hh) (fun r s' w => pq_s ⟨w.1, ?_⟩)) (fun c => pq_s ⟨rfl, ?_⟩)
  · rw [if_pos c]; exact w.2
  · rw [if_neg c]
theorem peac_b {M : Nat → Int32} {s : Sg} (P : PlnR 24 s M) (B : PlB M) (G : GrdT 0 s M) (e : Int32) (m : Nat) : ∀ (i : Nat) (v3 v4 : Int32), v4.toInt = (i : Int) → i ≤ 8 → (i : Int) ≤ (M 0).toInt → (∀ x, x < 32 → (bt v3 x = true ↔ ((x : Int) < (M 1).toInt ∧ ∀ h, h < i → atB M x h = true → flB M e.toInt x h (sgM M h) = true))) → PQ (f_X9_atPeace_26_25_b8 m e v3 v4 s) (fun r s' => s' = s ∧ ∀ x, x < 32 → (bt r x = true ↔ ((x : Int) < (M 1).toInt ∧ ∀ h : Nat, (h : Int) < (M 0).toInt → atB M x h = true → flB M e.toInt x h (sgM M h) = true))) := by
  induction m with
  | zero => intro i v3 v4 _ _ _ _ r s' q; cases q
  | succ m ih =>
    intro i v3 v4 h4 hi hH h3
    have e1 : (1 : Int32).toInt = 1 := rfl
    have a4 : (v4 + 1).toInt = v4.toInt + 1 := i_addx v4 1 (by omega)
    have e13 : (s.1 25 13).toInt = (M 0).toInt + 0 := P.1.1
    have b0 := P.2.1.1
    unfold f_X9_atPeace_26_25_b8
    refine pq_if (fun c => pq_s ⟨rfl, fun x hx => ?_⟩) (fun c => pq_c (fun _ => ?_))
    · have c := i_le c
      rw [h3 x hx]
      exact ⟨fun w => ⟨w.1, fun h hh => w.2 h (by omega)⟩, fun w => ⟨w.1, fun h hh => w.2 h (by omega)⟩⟩
    · have c := i_nle c
      have hh : i < 8 := by omega
      refine pq_b (sight_c G h4 hh) (fun r4 s5 k => ?_)
      obtain ⟨es, k⟩ := k
      subst es
      refine pq_b (cont_c P B h4 hh r4 e) (fun r6 s7 l => pq_n (fun x8 e8 => ?_))
      obtain ⟨es, l⟩ := l
      subst es
      refine ih (i + 1) x8 (v4 + 1) (by omega) (by omega) (by omega) (fun x hx => ?_)
      have q34 := qa_b P hh x
      rw [e8, bt_and, bt_or, bt_xor, bt_m1 x hx, cl_h h4]
      have lx := l x hx
      have hx3 := h3 x hx
      rw [k] at lx
      constructor
      · intro w
        obtain ⟨w1, w2⟩ := Bool.and_eq_true_iff.mp w
        refine ⟨(hx3.mp w1).1, fun h hhi hat => ?_⟩
        by_cases z : h = i
        · subst z
          rcases Bool.or_eq_true_iff.mp w2 with y | y
          · rw [q34.mpr ⟨(hx3.mp w1).1, hat⟩] at y
            exact absurd y (by decide)
          · exact (lx.mp y).2.2
        · exact (hx3.mp w1).2 h (by omega) hat
      · intro w
        refine Bool.and_eq_true_iff.mpr ⟨hx3.mpr ⟨w.1, fun h hhi hat => w.2 h (by omega) hat⟩, Bool.or_eq_true_iff.mpr ?_⟩
        by_cases z : atB M x i = true
        · exact Or.inr (lx.mpr ⟨w.1, z, w.2 i (by omega) z⟩)
        · refine Or.inl ?_
          have y : bt (s7.1 34 i) x = false := by
            cases hb : bt (s7.1 34 i) x with
            | false => rfl
            | true => exact absurd (q34.mp hb).2 z
          rw [y]
          rfl
theorem peac_c {M : Nat → Int32} {s : Sg} (P : PlnR 24 s M) (B : PlB M) (G : GrdT 0 s M) (e : Int32) : PQ (f_X9_atPeace_26_25 e s) (fun r s' => s' = s ∧ ∀ x, x < 32 → (bt r x = true ↔ ((x : Int) < (M 1).toInt ∧ pcB M e.toInt x = true))) := by
  unfold f_X9_atPeace_26_25
  refine pq_b (allq_c P) (fun r1 s2 k => ?_)
  obtain ⟨es, k⟩ := k
  subst es
  refine pq_w (peac_b P B G e BIG 0 r1 0 rfl (by decide) P.2.1.1.1 (fun x hx => ?_)) (fun r s' w => ⟨w.1, fun x hx => ?_⟩)
  · rw [k x hx]
    exact ⟨fun w => ⟨w, fun h hh => absurd hh (Nat.not_lt_zero _)⟩, fun w => w.1⟩
  · rw [w.2 x hx]
    constructor
    · intro y
      have pq := pln_q P y.1
      have c := pq.2.2.1
      have d := pq.2.2.2.1
      have n0 : (M (40 + 5 * x)).toInt = (h0 M x : Int) := by
        unfold h0
        have := c.1
        omega
      have n1 : (M (41 + 5 * x)).toInt = (h1 M x : Int) := by
        unfold h1
        have := c.2
        omega
      exact ⟨y.1, Bool.and_eq_true_iff.mpr ⟨y.2 _ (by omega) (decide_eq_true (Or.inl n0)), y.2 _ (by omega) (decide_eq_true (Or.inr n1))⟩⟩
    · intro y
      obtain ⟨y1, y2⟩ := y
      obtain ⟨y2, y3⟩ := Bool.and_eq_true_iff.mp y2
      refine ⟨y1, fun h hh hat => ?_⟩
      rcases of_decide_eq_true hat with z | z
      · have : h0 M x = h := by
          unfold h0
          omega
        rw [← this]; exact y2
      · have : h1 M x = h := by
          unfold h1
          omega
        rw [← this]; exact y3
theorem sight_cz {M : Nat → Int32} {s : Sg} (G : GrdT 27 s M) {a : Int32} {h : Nat} (ha : a.toInt = (h : Int)) (hh : h < 8) : PQ (f_X2_inSight_53 a s) (fun r s' => s' = s ∧ r = sgM M h) := by
  have e3 : s.1 69 h = M (18 + 3 * h) := G 69 h _ (Or.inl ⟨hh, Or.inr (Or.inr (Or.inl ⟨rfl, rfl⟩))⟩)
  unfold f_X2_inSight_53 sgM
  refine pq_c (fun _ => ?_)
  rw [cl_h ha, e3]
  refine pq_if (fun c => pq_b (ly_cz G ha hh) (fun r s' w => pq_s ⟨w.1, ?_⟩)) (fun c => pq_s ⟨rfl, ?_⟩)
  · rw [if_pos c]; exact w.2
  · rw [if_neg c]
theorem peac_bz {M : Nat → Int32} {s : Sg} (P : PlnR 24 s M) (B : PlB M) (G : GrdT 27 s M) (e : Int32) (m : Nat) : ∀ (i : Nat) (v3 v4 : Int32), v4.toInt = (i : Int) → i ≤ 8 → (i : Int) ≤ (M 0).toInt → (∀ x, x < 32 → (bt v3 x = true ↔ ((x : Int) < (M 1).toInt ∧ ∀ h, h < i → atB M x h = true → flB M e.toInt x h (sgM M h) = true))) → PQ (f_X9_atPeace_53_25_b8 m e v3 v4 s) (fun r s' => s' = s ∧ ∀ x, x < 32 → (bt r x = true ↔ ((x : Int) < (M 1).toInt ∧ ∀ h : Nat, (h : Int) < (M 0).toInt → atB M x h = true → flB M e.toInt x h (sgM M h) = true))) := by
  induction m with
  | zero => intro i v3 v4 _ _ _ _ r s' q; cases q
  | succ m ih =>
    intro i v3 v4 h4 hi hH h3
    have e1 : (1 : Int32).toInt = 1 := rfl
    have a4 : (v4 + 1).toInt = v4.toInt + 1 := i_addx v4 1 (by omega)
    have e13 : (s.1 25 13).toInt = (M 0).toInt + 0 := P.1.1
    have b0 := P.2.1.1
    unfold f_X9_atPeace_53_25_b8
    refine pq_if (fun c => pq_s ⟨rfl, fun x hx => ?_⟩) (fun c => pq_c (fun _ => ?_))
    · have c := i_le c
      rw [h3 x hx]
      exact ⟨fun w => ⟨w.1, fun h hh => w.2 h (by omega)⟩, fun w => ⟨w.1, fun h hh => w.2 h (by omega)⟩⟩
    · have c := i_nle c
      have hh : i < 8 := by omega
      refine pq_b (sight_cz G h4 hh) (fun r4 s5 k => ?_)
      obtain ⟨es, k⟩ := k
      subst es
      refine pq_b (cont_c P B h4 hh r4 e) (fun r6 s7 l => pq_n (fun x8 e8 => ?_))
      obtain ⟨es, l⟩ := l
      subst es
      refine ih (i + 1) x8 (v4 + 1) (by omega) (by omega) (by omega) (fun x hx => ?_)
      have q34 := qa_b P hh x
      rw [e8, bt_and, bt_or, bt_xor, bt_m1 x hx, cl_h h4]
      have lx := l x hx
      have hx3 := h3 x hx
      rw [k] at lx
      constructor
      · intro w
        obtain ⟨w1, w2⟩ := Bool.and_eq_true_iff.mp w
        refine ⟨(hx3.mp w1).1, fun h hhi hat => ?_⟩
        by_cases z : h = i
        · subst z
          rcases Bool.or_eq_true_iff.mp w2 with y | y
          · rw [q34.mpr ⟨(hx3.mp w1).1, hat⟩] at y
            exact absurd y (by decide)
          · exact (lx.mp y).2.2
        · exact (hx3.mp w1).2 h (by omega) hat
      · intro w
        refine Bool.and_eq_true_iff.mpr ⟨hx3.mpr ⟨w.1, fun h hhi hat => w.2 h (by omega) hat⟩, Bool.or_eq_true_iff.mpr ?_⟩
        by_cases z : atB M x i = true
        · exact Or.inr (lx.mpr ⟨w.1, z, w.2 i (by omega) z⟩)
        · refine Or.inl ?_
          have y : bt (s7.1 34 i) x = false := by
            cases hb : bt (s7.1 34 i) x with
            | false => rfl
            | true => exact absurd (q34.mp hb).2 z
          rw [y]
          rfl
theorem peac_cz {M : Nat → Int32} {s : Sg} (P : PlnR 24 s M) (B : PlB M) (G : GrdT 27 s M) (e : Int32) : PQ (f_X9_atPeace_53_25 e s) (fun r s' => s' = s ∧ ∀ x, x < 32 → (bt r x = true ↔ ((x : Int) < (M 1).toInt ∧ pcB M e.toInt x = true))) := by
  unfold f_X9_atPeace_53_25
  refine pq_b (allq_c P) (fun r1 s2 k => ?_)
  obtain ⟨es, k⟩ := k
  subst es
  refine pq_w (peac_bz P B G e BIG 0 r1 0 rfl (by decide) P.2.1.1.1 (fun x hx => ?_)) (fun r s' w => ⟨w.1, fun x hx => ?_⟩)
  · rw [k x hx]
    exact ⟨fun w => ⟨w, fun h hh => absurd hh (Nat.not_lt_zero _)⟩, fun w => w.1⟩
  · rw [w.2 x hx]
    constructor
    · intro y
      have pq := pln_q P y.1
      have c := pq.2.2.1
      have d := pq.2.2.2.1
      have n0 : (M (40 + 5 * x)).toInt = (h0 M x : Int) := by
        unfold h0
        have := c.1
        omega
      have n1 : (M (41 + 5 * x)).toInt = (h1 M x : Int) := by
        unfold h1
        have := c.2
        omega
      exact ⟨y.1, Bool.and_eq_true_iff.mpr ⟨y.2 _ (by omega) (decide_eq_true (Or.inl n0)), y.2 _ (by omega) (decide_eq_true (Or.inr n1))⟩⟩
    · intro y
      obtain ⟨y1, y2⟩ := y
      obtain ⟨y2, y3⟩ := Bool.and_eq_true_iff.mp y2
      refine ⟨y1, fun h hh hat => ?_⟩
      rcases of_decide_eq_true hat with z | z
      · have : h0 M x = h := by
          unfold h0
          omega
        rw [← this]; exact y2
      · have : h1 M x = h := by
          unfold h1
          omega
        rw [← this]; exact y3
