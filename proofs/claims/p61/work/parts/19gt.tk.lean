/-! what is asked of the plan alone: cat, ghosts, hopeless, reaches, chain -/
def AnQ (r : Int32) (s : Sg) (r' : Int32) (t : Sg) : Prop := r = r' ∧ s.1 0 15 = t.1 0 2
theorem aq_rf (s t : Sg) (w : Int32) : RQ (bd (f_X11_refuse w s) (fun r s => some (r, s))) (bd (f_X12_refuse w t) (fun r t => some (r, t))) AnQ := by
  have q : RQ (some ((-1 : Int32), pI s 0 15 w)) (some ((-1 : Int32), pI t 0 2 w)) AnQ := rq_s ⟨rfl, by rw [q_eq, q_eq]⟩
  exact q
theorem aq_an (s t : Sg) {v v' : Int32} (e : v = v') : RQ (bd (f_X11_answer v s) (fun r s => some (r, s))) (bd (f_X12_gives v' t) (fun r t => some (r, t))) AnQ := by
  have q : RQ (some (v, pI s 0 15 0)) (some (v', pI t 0 2 0)) AnQ := rq_s ⟨e, by rw [q_eq, q_eq]⟩
  exact q
theorem cat_q {s t : Sg} (P : PlnR 24 s (t.1 1)) (a b : Int32) : RQ (f_X11_cat a b s) (f_X12_cat a b t) AnQ := by
  have e15 : s.1 25 15 = t.1 1 2 := P.1.2.2.1
  have sb := i_sub (s.1 25 15) 1
  have bb := P.2.1.2.2.1
  have z0 : (0 : Int32).toInt = 0 := rfl
  have z1 : (1 : Int32).toInt = 1 := rfl
  have z2 : (2 : Int32).toInt = 2 := rfl
  unfold f_X11_cat f_X12_cat
  refine rq_bC (wi_p a 0 ((s.1 25 15) - 1) s) (fun r1 s2 g => ?_)
  obtain ⟨es, g⟩ := g
  subst es
  rw [e15] at sb g
  rcases g with ⟨z, g1, g2⟩ | ⟨z, g⟩ <;> subst z
  · rw [if_neg i10]
    have hc : (a.toInt.toNat : Int) < (t.1 1 2).toInt := by omega
    have ha : a.toInt = (a.toInt.toNat : Int) := by omega
    have c4 : a.toInt.toNat < 4 := by omega
    have x := cx_x ha c4
    have pc := (P.2.2.2.2.2.1 a.toInt.toNat hc).1
    refine rq_iM (fun c => absurd (i_lt c) (by omega)) (fun _ => rq_iM (fun c => absurd (i_le c) (by omega)) (fun _ => ?_))
    refine rq_iC (fun c => ?_) (fun n0 => rq_iC (fun c => ?_) (fun n1 => rq_iC (fun c => ?_) (fun n2 => ?_)))
    · subst c
      refine rq_iM (fun c => absurd c (by decide)) (fun _ => rq_iM (fun c => absurd c (by decide)) (fun _ => rq_cC (fun _ => rq_cM (fun _ => aq_an s2 t ?_))))
      have d : ((80 + (3 * a)) + 0).toNatClampNeg = 80 + 3 * a.toInt.toNat := by
        rw [show (80 + (3 * a)) + 0 = 80 + (3 * a) from Int32.toInt_inj.mp (by
          have m1 : (3 * a).toInt = 3 * a.toInt := i_mulx 3 a (show -2147483648 ≤ 3 * a.toInt ∧ 3 * a.toInt ≤ 2147483647 from by omega)
          have e80 : (80 : Int32).toInt = 80 := rfl
          have m2 : (80 + (3 * a)).toInt = 80 + 3 * a.toInt := by rw [i_addx _ _ (by omega)]; omega
          rw [i_addx _ _ (by omega)]
          omega)]
        exact x.1
      rw [cl_h ha, d]
      exact pc.1
    · subst c
      refine rq_iM (fun c => absurd c (by decide)) (fun _ => rq_iM (fun c => absurd c (by decide)) (fun _ => rq_cC (fun _ => rq_cM (fun _ => aq_an s2 t ?_))))
      rw [cl_h ha, x.2.1]
      exact pc.2.1
    · subst c
      refine rq_iM (fun c => absurd c (by decide)) (fun _ => rq_iM (fun c => absurd c (by decide)) (fun _ => rq_cC (fun _ => rq_cM (fun _ => aq_an s2 t ?_))))
      rw [cl_h ha, x.2.2]
      exact pc.2.2
    · refine rq_iM (fun _ => aq_rf s2 t 1) (fun c => rq_iM (fun _ => aq_rf s2 t 1) (fun d => ?_))
      have c := i_nlt c
      have d := i_nlt d
      have m0 : ¬ b.toInt = 0 := fun z => n0 (Int32.toInt_inj.mp (z.trans z0.symm))
      have m1 : ¬ b.toInt = 1 := fun z => n1 (Int32.toInt_inj.mp (z.trans z1.symm))
      have m2 : ¬ b.toInt = 2 := fun z => n2 (Int32.toInt_inj.mp (z.trans z2.symm))
      omega
  · rw [if_pos rfl]
    refine rq_iM (fun _ => aq_rf s2 t 1) (fun c => rq_iM (fun _ => aq_rf s2 t 1) (fun d => ?_))
    have c := i_nlt c
    have d := i_nle d
    omega
/-! sets, by their bits -/
theorem ends_h {M : Nat → Int32} {s : Sg} (P : PlnR 24 s M) {x : Nat} (hx : (x : Int) < (M 1).toInt) : ((M (40 + 5 * x)).toInt = (h0 M x : Int) ∧ (M (41 + 5 * x)).toInt = (h1 M x : Int)) ∧ (h0 M x < 8 ∧ h1 M x < 8) ∧ ((h0 M x : Int) < (M 0).toInt ∧ (h1 M x : Int) < (M 0).toInt) ∧ ¬ h0 M x = h1 M x ∧ x < 8 := by
  have pq := pln_q P hx
  have c := pq.2.2.1
  have d := pq.2.2.2.1
  have n := pq.2.2.2.2
  have n0 : (M (40 + 5 * x)).toInt = (h0 M x : Int) := by
    unfold h0
    have := c.1
    omega
  have n1 : (M (41 + 5 * x)).toInt = (h1 M x : Int) := by
    unfold h1
    have := c.2
    omega
  have c1 := c.1
  have c2 := c.2
  refine ⟨⟨n0, n1⟩, by omega, by omega, fun z => n (Int32.toInt_inj.mp (by rw [n0, n1, z])), pq.1⟩
theorem at_h {M : Nat → Int32} {s : Sg} (P : PlnR 24 s M) {x h : Nat} (hx : (x : Int) < (M 1).toInt) : atB M x h = true ↔ (h = h0 M x ∨ h = h1 M x) := by
  have e := (ends_h P hx).1
  unfold atB
  rw [e.1, e.2]
  constructor
  · intro w
    have w := of_decide_eq_true w
    omega
  · intro w
    exact decide_eq_true (by omega)
def BiC (s : Sg) (Bt : Nat → Prop) (r : Int32) (s' : Sg) : Prop := s'.1 0 15 = 0 ∧ ∀ x, x < 32 → (bt r x = true ↔ Bt x)
def BiM (Bt : Nat → Prop) (r : Int32) (t' : Sg) : Prop := t'.1 0 2 = 0 ∧ ∀ x, x < 32 → (bt r x = true ↔ Bt x)
theorem bt_iff {r r' : Int32} {Bt : Nat → Prop} (h : ∀ x, x < 32 → (bt r x = true ↔ Bt x)) (g : ∀ x, x < 32 → (bt r' x = true ↔ Bt x)) : r = r' := bt_ext (fun i hi => by
  have a := h i hi
  have b := g i hi
  cases x : bt r i <;> cases y : bt r' i
  · rfl
  · exact absurd (a.mpr (b.mp y)) (by rw [x]; decide)
  · exact absurd (b.mpr (a.mp x)) (by rw [y]; decide)
  · rfl)
theorem aq_bi {s : Sg} {Bt : Nat → Prop} {oC oM : Option (Int32 × Sg)} (h : PQ oC (BiC s Bt)) (g : PQ oM (BiM Bt)) : RQ oC oM AnQ := rq_pp h g (fun _ _ _ _ a b => ⟨bt_iff a.2 b.2, a.1.trans b.1.symm⟩)
theorem bi_an {s u : Sg} {Bt : Nat → Prop} {v : Int32} (h : ∀ x, x < 32 → (bt v x = true ↔ Bt x)) : PQ (bd (f_X11_answer v u) (fun r s => some (r, s))) (BiC s Bt) := by
  have q : PQ (some (v, pI u 0 15 0)) (BiC s Bt) := pq_s ⟨q_eq, h⟩
  exact q
theorem bi_gv {u : Sg} {Bt : Nat → Prop} {v : Int32} (h : ∀ x, x < 32 → (bt v x = true ↔ Bt x)) : PQ (bd (f_X12_gives v u) (fun r s => some (r, s))) (BiM Bt) := by
  have q : PQ (some (v, pI u 0 2 0)) (BiM Bt) := pq_s ⟨q_eq, h⟩
  exact q
theorem or_bit {v a : Int32} {q : Nat} (ha : a.toInt = (q : Int)) (hq : q < 32) (x : Nat) : bt (v ||| ((1 : Int32) <<< (a &&& 31))) x = true ↔ (bt v x = true ∨ x = q) := by
  rw [bt_or, bitI_v ha hq, bt_bit hq]
  constructor
  · intro w
    rcases Bool.or_eq_true_iff.mp w with w | w
    · exact Or.inl w
    · exact Or.inr (of_decide_eq_true w)
  · rintro (w | w)
    · exact Bool.or_eq_true_iff.mpr (Or.inl w)
    · exact Bool.or_eq_true_iff.mpr (Or.inr (decide_eq_true w))
theorem or_0 (v : Int32) (x : Nat) : bt (v ||| 0) x = true ↔ bt v x = true := by
  rw [bt_or, bt_0, Bool.or_false]
/-! the reference's sets -/
theorem so_90 {k : Int32 → Int32 → Int32 → Sg → Option (Int32 × Sg)} {v1 v2 v3 r : Int32} {t : Sg} {q : Nat} {p : Prop} {Q : Int32 → Sg → Prop} (h3 : v3.toInt = (q : Int)) (hq : q < 32) (hr : Fl p r) (hk : ∀ v, (∀ x, x < 32 → (bt v x = true ↔ (bt v2 x = true ∨ (x = q ∧ p)))) → PQ (k v1 v (v3 + 1) t) Q) : PQ (f_X12_setOf_b90 k v1 v2 v3 r t) Q := by
  unfold f_X12_setOf_b90
  refine pq_if (fun c => hk _ (fun x _ => ?_)) (fun c => pq_n (fun x3 e => hk _ (fun x _ => ?_)))
  · rw [or_0]
    exact ⟨Or.inl, fun w => w.elim id (fun y => absurd y.2 (r1_n hr c))⟩
  · rw [e, or_bit h3 hq]
    exact ⟨fun w => w.elim Or.inl (fun y => Or.inr ⟨y, r1_y hr c⟩), fun w => w.elim Or.inl (fun y => Or.inr y.1)⟩
def SoB (k : Int32 → Int32 → Int32 → Sg → Option (Int32 × Sg)) (v1 v2 v3 : Int32) (t : Sg) : Option (Int32 × Sg) :=
  if v1 = 0 then bd (f_X12_hasPeace v3 t) (fun r1 s2 => f_X12_setOf_b90 k v1 v2 v3 r1 s2)
  else if v1 = 1 then bd (f_X12_isSome v3 0 t) (fun r4 s5 => if r4 = 0 then f_X12_setOf_b53 k v1 v2 v3 s5 else bd (f_X12_isSome v3 1 s5) (fun r6 s7 => if r6 = 0 then f_X12_setOf_b53 k v1 v2 v3 s7 else f_X12_setOf_b90 k v1 v2 v3 1 s7))
  else if v1 = 2 then bd (f_X12_quarrelRow v3 t) (fun r8 s9 => ck (inr (r8 + 3) 2880) (if (s9.1 1 ((r8 + 3).toNatClampNeg)) = 1 then f_X12_setOf_b90 k v1 v2 v3 1 s9 else f_X12_setOf_b90 k v1 v2 v3 0 s9))
  else bd (f_X12_neverCan v3 t) (fun r11 s12 => f_X12_setOf_b90 k v1 v2 v3 r11 s12)
theorem so_e (m : Nat) (v1 v2 v3 : Int32) (t : Sg) : f_X12_setOf_b4 (m + 1) v1 v2 v3 t = if (t.1 1 1) ≤ v3 then some (v2, t) else SoB (f_X12_setOf_b4 m) v1 v2 v3 t := rfl
def SoH (t : Sg) (v1 : Int32) (Pr : Nat → Prop) : Prop := ∀ (k : Int32 → Int32 → Int32 → Sg → Option (Int32 × Sg)) (v2 v3 : Int32) (q : Nat) (Q : Int32 → Sg → Prop), v3.toInt = (q : Int) → (q : Int) < (t.1 1 1).toInt → (∀ v, (∀ x, x < 32 → (bt v x = true ↔ (bt v2 x = true ∨ (x = q ∧ Pr q)))) → PQ (k v1 v (v3 + 1) t) Q) → PQ (SoB k v1 v2 v3 t) Q
theorem so_b4 {t : Sg} {v1 : Int32} {Pr : Nat → Prop} (b1 : 0 ≤ (t.1 1 1).toInt ∧ (t.1 1 1).toInt ≤ 8) (H : SoH t v1 Pr) (m : Nat) : ∀ (i : Nat) (v2 v3 : Int32), v3.toInt = (i : Int) → (i : Int) ≤ (t.1 1 1).toInt → (∀ x, x < 32 → (bt v2 x = true ↔ (x < i ∧ Pr x))) → PQ (f_X12_setOf_b4 m v1 v2 v3 t) (fun r t' => t' = t ∧ ∀ x, x < 32 → (bt r x = true ↔ ((x : Int) < (t.1 1 1).toInt ∧ Pr x))) := by
  induction m with
  | zero => intro i v2 v3 _ _ _ r t' z; cases z
  | succ m ih =>
    intro i v2 v3 h3 hi h2
    have e1 : (1 : Int32).toInt = 1 := rfl
    rw [so_e]
    refine pq_if (fun c => pq_s ⟨rfl, fun x hx => ?_⟩) (fun c => ?_)
    · have c := i_le c
      rw [h2 x hx]
      exact ⟨fun w => ⟨by omega, w.2⟩, fun w => ⟨by omega, w.2⟩⟩
    · have c := i_nle c
      refine H _ v2 v3 i _ h3 (by omega) (fun v hv => ih (i + 1) v (v3 + 1) (by rw [i_addx _ _ (by omega)]; omega) (by omega) (fun x hx => ?_))
      rw [hv x hx, h2 x hx]
      constructor
      · rintro (w | ⟨w1, w2⟩)
        · exact ⟨by omega, w.2⟩
        · exact ⟨by omega, by rw [w1]; exact w2⟩
      · intro w
        by_cases z : x = i
        · exact Or.inr ⟨z, by rw [← z]; exact w.2⟩
        · exact Or.inl ⟨by omega, w.2⟩
theorem so_p {t : Sg} {v1 : Int32} {Pr : Nat → Prop} (b1 : 0 ≤ (t.1 1 1).toInt ∧ (t.1 1 1).toInt ≤ 8) (H : SoH t v1 Pr) : PQ (f_X12_setOf v1 t) (fun r t' => t' = t ∧ ∀ x, x < 32 → (bt r x = true ↔ ((x : Int) < (t.1 1 1).toInt ∧ Pr x))) := by
  unfold f_X12_setOf
  refine so_b4 b1 H BIG 0 0 0 rfl b1.1 (fun x _ => ?_)
  rw [bt_0]
  exact ⟨fun z => absurd z (by decide), fun z => absurd z.1 (Nat.not_lt_zero _)⟩
/-- a quarrel that never can have peace -/
def NvP (M : Nat → Int32) (q : Nat) : Prop := M 14 = 0 ∧ (bt (M 9) (h0 M q) = true ∨ bt (M 9) (h1 M q) = true)
theorem nev_m {s t : Sg} (P : PlnR 24 s (t.1 1)) {a : Int32} {q : Nat} (ha : a.toInt = (q : Int)) (hq : (q : Int) < (t.1 1 1).toInt) : PQ (f_X12_neverCan a t) (fun r t' => t' = t ∧ Fl (NvP (t.1 1) q) r) := by
  have en := ends_h P hq
  have x := qr_x ha en.2.2.2.2
  unfold f_X12_neverCan
  refine pq_if (fun c => pq_b (qh_p a 0 t) (fun r1 t2 k => pq_c (fun _ => ?_))) (fun c => pq_s ⟨rfl, Or.inr ⟨rfl, fun z => c z.1⟩⟩)
  obtain ⟨et, k⟩ := k
  subst et
  rw [k, x.1]
  refine pq_b (gone_m en.1.1 (by omega) t2) (fun r4 t5 g => ?_)
  obtain ⟨et, g⟩ := g
  subst et
  refine pq_if (fun d => pq_b (qh_p a 1 t5) (fun r6 t7 k => pq_c (fun _ => ?_))) (fun d => pq_s ⟨rfl, Or.inl ⟨rfl, c, Or.inl (r1_y g d)⟩⟩)
  obtain ⟨et, k⟩ := k
  subst et
  rw [k, x.2.1]
  refine pq_b (gone_m en.1.2 (by omega) t7) (fun r9 t10 f => ?_)
  obtain ⟨et, f⟩ := f
  subst et
  exact pq_if (fun e => pq_s ⟨rfl, Or.inr ⟨rfl, fun z => z.2.elim (r1_n g d) (r1_n f e)⟩⟩) (fun e => pq_s ⟨rfl, Or.inl ⟨rfl, c, Or.inr (r1_y f e)⟩⟩)
theorem soh_3 {s t : Sg} (P : PlnR 24 s (t.1 1)) : SoH t 3 (NvP (t.1 1)) := fun k v2 v3 q Q h3 hq hk => by
  unfold SoB
  rw [if_neg (by decide), if_neg (by decide), if_neg (by decide)]
  refine pq_b (nev_m P h3 hq) (fun r t2 g => ?_)
  obtain ⟨et, g⟩ := g
  subst et
  exact so_90 h3 (by have := (ends_h P hq).2.2.2.2; omega) g hk
theorem soh_0 {s t : Sg} (P : PlnR 24 s (t.1 1)) : SoH t 0 (fun q => pcB (t.1 1) (t.1 0 24).toInt q = true) := fun k v2 v3 q Q h3 hq hk => by
  unfold SoB
  rw [if_pos rfl]
  have en := ends_h P hq
  refine pq_b (peace_m h3 en.2.2.2.2 t (pln_q P hq).2.2.1) (fun r t2 g => ?_)
  obtain ⟨et, g⟩ := g
  subst et
  exact so_90 h3 (by have := en.2.2.2.2; omega) g hk
theorem soh_2 {s t : Sg} (P : PlnR 24 s (t.1 1)) : SoH t 2 (fun q => t.1 1 (43 + 5 * q) = 1) := fun k v2 v3 q Q h3 hq hk => by
  unfold SoB
  rw [if_neg (by decide), if_neg (by decide), if_pos rfl]
  have en := ends_h P hq
  have q8 := en.2.2.2.2
  refine pq_b (qrow_p v3 t) (fun r t2 g => pq_c (fun _ => ?_))
  obtain ⟨et, g⟩ := g
  subst et
  rw [g, (qr_x h3 q8).2.2.2.1]
  exact pq_if (fun c => so_90 h3 (by omega) (Or.inl ⟨rfl, c⟩) hk) (fun c => so_90 h3 (by omega) (Or.inr ⟨rfl, c⟩) hk)
/-! hopeless, as the class has it -/
theorem wh_b4 {M : Nat → Int32} {s : Sg} (P : PlnR 24 s M) (m : Nat) : ∀ (i : Nat) (v1 v2 : Int32), v2.toInt = (i : Int) → (i : Int) ≤ (M 0).toInt → (∀ x, x < 32 → (bt v1 x = true ↔ (((x : Int) < (M 1).toInt ∧ M 14 = 0) ∧ ∃ h, h < i ∧ bt (M 9) h = true ∧ atB M x h = true))) → PQ (f_X4_withoutHope_b4 m v1 v2 s) (fun r s' => s' = s ∧ ∀ x, x < 32 → (bt r x = true ↔ ((x : Int) < (M 1).toInt ∧ NvP M x))) := by
  induction m with
  | zero => intro i v1 v2 _ _ _ r s' z; cases z
  | succ m ih =>
    intro i v1 v2 h2 hi h1'
    have e1 : (1 : Int32).toInt = 1 := rfl
    have b0 := P.2.1.1
    have e13 : (s.1 25 13).toInt = (M 0).toInt + 0 := P.1.1
    have e19 : s.1 25 19 = M 14 := P.2.2.1.2.2
    unfold f_X4_withoutHope_b4
    refine pq_if (fun c => pq_s ⟨rfl, fun x hx => ?_⟩) (fun c => pq_if (fun d => ?_) (fun d => pq_s ⟨rfl, fun x hx => ?_⟩))
    · have c := i_le c
      rw [h1' x hx]
      unfold NvP
      constructor
      · rintro ⟨⟨w1, w2⟩, h, w3, w4, w5⟩
        refine ⟨w1, w2, ?_⟩
        rcases (at_h P w1).mp w5 with z | z
        · exact Or.inl (by rw [← z]; exact w4)
        · exact Or.inr (by rw [← z]; exact w4)
      · rintro ⟨w1, w2, w3⟩
        have en := ends_h P w1
        refine ⟨⟨w1, w2⟩, ?_⟩
        rcases w3 with z | z
        · exact ⟨h0 M x, by omega, z, (at_h P w1).mpr (Or.inl rfl)⟩
        · exact ⟨h1 M x, by omega, z, (at_h P w1).mpr (Or.inr rfl)⟩
    · have c := i_nle c
      have hh : i < 8 := by omega
      have a2 : (v2 + 1).toInt = ((i + 1 : Nat) : Int) := by rw [i_addx _ _ (by omega)]; omega
      refine pq_b (gone_c P h2 (by omega)) (fun r3 s4 k => ?_)
      obtain ⟨es, k⟩ := k
      subst es
      refine pq_if (fun f => ih (i + 1) v1 (v2 + 1) a2 (by omega) (fun x hx => ?_)) (fun f => pq_c (fun _ => pq_n (fun x4 e4 => ih (i + 1) x4 (v2 + 1) a2 (by omega) (fun x hx => ?_))))
      · rw [h1' x hx]
        constructor
        · rintro ⟨w, h, w3, w4⟩
          exact ⟨w, h, by omega, w4⟩
        · rintro ⟨w, h, w3, w4, w5⟩
          refine ⟨w, h, ?_, w4, w5⟩
          by_cases z : h = i
          · subst z
            exact absurd w4 (r1_n k f)
          · omega
      · have q := qa_b P hh x
        rw [cl_h h2] at e4
        rw [e4, bt_or]
        constructor
        · intro w
          rcases Bool.or_eq_true_iff.mp w with w | w
          · obtain ⟨w, h, w3, w4⟩ := (h1' x hx).mp w
            exact ⟨w, h, by omega, w4⟩
          · have w := q.mp w
            exact ⟨⟨w.1, e19.symm.trans d⟩, i, by omega, r1_y k f, w.2⟩
        · rintro ⟨w, h, w3, w4, w5⟩
          refine Bool.or_eq_true_iff.mpr ?_
          by_cases z : h = i
          · subst z
            exact Or.inr (q.mpr ⟨w.1, w5⟩)
          · exact Or.inl ((h1' x hx).mpr ⟨w, h, by omega, w4, w5⟩)
    · rw [h1' x hx]
      have n14 : ¬ M 14 = 0 := fun z => d (e19.trans z)
      exact ⟨fun w => absurd w.1.2 n14, fun w => absurd w.2.1 n14⟩
theorem wh_c {M : Nat → Int32} {s : Sg} (P : PlnR 24 s M) : PQ (f_X4_withoutHope s) (fun r s' => s' = s ∧ ∀ x, x < 32 → (bt r x = true ↔ ((x : Int) < (M 1).toInt ∧ NvP M x))) := by
  unfold f_X4_withoutHope
  refine wh_b4 P BIG 0 0 0 rfl P.2.1.1.1 (fun x _ => ?_)
  rw [bt_0]
  exact ⟨fun z => absurd z (by decide), fun z => by obtain ⟨-, h, w, -⟩ := z; exact absurd w (Nat.not_lt_zero _)⟩
theorem hopeless_q {s t : Sg} (P : PlnR 24 s (t.1 1)) : RQ (f_X11_hopeless s) (f_X12_hopeless t) AnQ := by
  unfold f_X11_hopeless f_X12_hopeless
  refine aq_bi (s := s) (Bt := fun x => (x : Int) < (t.1 1 1).toInt ∧ NvP (t.1 1) x) (pq_b (wh_c P) (fun r s2 g => bi_an g.2)) (pq_b (so_p P.2.1.2.1 (soh_3 P)) (fun r t2 g => bi_gv g.2))
/-! ghosts -/
def GhP (M : Nat → Int32) (q : Nat) : Prop := bt (M 9) (h0 M q) = true ∧ bt (M 9) (h1 M q) = true
theorem gh_st {M : Nat → Int32} {i : Nat} {v : Int32} {p : Prop} (h : ∀ x, x < 32 → (bt v x = true ↔ (x < i ∧ GhP M x))) (e : GhP M i ↔ p) {v' : Int32} (h' : ∀ x, x < 32 → (bt v' x = true ↔ (bt v x = true ∨ (x = i ∧ p)))) : ∀ x, x < 32 → (bt v' x = true ↔ (x < i + 1 ∧ GhP M x)) := fun x hx => by
  rw [h' x hx, h x hx]
  constructor
  · rintro (w | ⟨w1, w2⟩)
    · exact ⟨by omega, w.2⟩
    · exact ⟨by omega, by rw [w1]; exact e.mpr w2⟩
  · intro w
    by_cases z : x = i
    · exact Or.inr ⟨z, e.mp (by rw [← z]; exact w.2)⟩
    · exact Or.inl ⟨by omega, w.2⟩
theorem gh_c {M : Nat → Int32} {s : Sg} (P : PlnR 24 s M) (m : Nat) : ∀ (i : Nat) (v1 v2 : Int32), v2.toInt = (i : Int) → (i : Int) ≤ (M 1).toInt → (∀ x, x < 32 → (bt v1 x = true ↔ (x < i ∧ GhP M x))) → PQ (f_X11_ghosts_b4 m v1 v2 s) (BiC s (fun x => (x : Int) < (M 1).toInt ∧ GhP M x)) := by
  induction m with
  | zero => intro i v1 v2 _ _ _ r s' z; cases z
  | succ m ih =>
    intro i v1 v2 h2 hi hv
    have e1 : (1 : Int32).toInt = 1 := rfl
    have b1 := P.2.1.2.1
    have e14 : s.1 25 14 = M 1 := P.1.2.1
    unfold f_X11_ghosts_b4
    rw [e14]
    refine pq_if (fun c => bi_an (fun x hx => ?_)) (fun c => pq_c (fun _ => ?_))
    · have c := i_le c
      rw [hv x hx]
      exact ⟨fun w => ⟨by omega, w.2⟩, fun w => ⟨by omega, w.2⟩⟩
    · have c := i_nle c
      have hQ : (i : Int) < (M 1).toInt := by omega
      have en := ends_h P hQ
      have w := (pln_q P hQ).2.1
      have a2 : (v2 + 1).toInt = ((i + 1 : Nat) : Int) := by rw [i_addx _ _ (by omega)]; omega
      rw [cl_h h2, w.1]
      refine pq_b (gone_c P en.1.1 (by omega)) (fun r4 s5 k => ?_)
      obtain ⟨es, k⟩ := k
      subst es
      refine pq_if (fun d => ih (i + 1) v1 (v2 + 1) a2 (by omega) (gh_st hv (p := False) ⟨fun z => r1_n k d z.1, fun z => z.elim⟩ (fun x _ => ⟨Or.inl, fun z => z.elim id (fun y => y.2.elim)⟩))) (fun d => ?_)
      rw [w.2.1]
      refine pq_b (gone_c P en.1.2 (by omega)) (fun r6 s7 l => ?_)
      obtain ⟨es, l⟩ := l
      subst es
      refine pq_if (fun f => ih (i + 1) v1 (v2 + 1) a2 (by omega) (gh_st hv (p := False) ⟨fun z => r1_n l f z.2, fun z => z.elim⟩ (fun x _ => ⟨Or.inl, fun z => z.elim id (fun y => y.2.elim)⟩))) (fun f => pq_n (fun x8 e8 => ih (i + 1) x8 (v2 + 1) a2 (by omega) (gh_st hv (p := True) ⟨fun _ => trivial, fun _ => ⟨r1_y k d, r1_y l f⟩⟩ (fun x _ => ?_))))
      rw [e8, or_bit h2 (by omega)]
      exact ⟨fun z => z.elim Or.inl (fun y => Or.inr ⟨y, trivial⟩), fun z => z.elim Or.inl (fun y => Or.inr y.1)⟩
theorem gh_m {s t : Sg} (P : PlnR 24 s (t.1 1)) (m : Nat) : ∀ (i : Nat) (v1 v2 : Int32), v2.toInt = (i : Int) → (i : Int) ≤ (t.1 1 1).toInt → (∀ x, x < 32 → (bt v1 x = true ↔ (x < i ∧ GhP (t.1 1) x))) → PQ (f_X12_ghosts_b4 m v1 v2 t) (BiM (fun x => (x : Int) < (t.1 1 1).toInt ∧ GhP (t.1 1) x)) := by
  induction m with
  | zero => intro i v1 v2 _ _ _ r s' z; cases z
  | succ m ih =>
    intro i v1 v2 h2 hi hv
    have e1 : (1 : Int32).toInt = 1 := rfl
    have b1 := P.2.1.2.1
    unfold f_X12_ghosts_b4
    refine pq_if (fun c => bi_gv (fun x hx => ?_)) (fun c => ?_)
    · have c := i_le c
      rw [hv x hx]
      exact ⟨fun w => ⟨by omega, w.2⟩, fun w => ⟨by omega, w.2⟩⟩
    · have c := i_nle c
      have hQ : (i : Int) < (t.1 1 1).toInt := by omega
      have en := ends_h P hQ
      have xx := qr_x h2 en.2.2.2.2
      have a2 : (v2 + 1).toInt = ((i + 1 : Nat) : Int) := by rw [i_addx _ _ (by omega)]; omega
      refine pq_b (qh_p v2 0 t) (fun r3 t4 k => pq_c (fun _ => ?_))
      obtain ⟨et, k⟩ := k
      subst et
      rw [k, xx.1]
      refine pq_b (gone_m en.1.1 (by omega) t4) (fun r4 s5 k => ?_)
      obtain ⟨es, k⟩ := k
      subst es
      refine pq_if (fun d => ih (i + 1) _ (v2 + 1) a2 (by omega) (gh_st hv (p := False) ⟨fun z => r1_n k d z.1, fun z => z.elim⟩ (fun x _ => ?_))) (fun d => pq_b (qh_p v2 1 s5) (fun r3 t4 l => pq_c (fun _ => ?_)))
      · rw [or_0]
        exact ⟨Or.inl, fun z => z.elim id (fun y => y.2.elim)⟩
      obtain ⟨et, l⟩ := l
      subst et
      rw [l, xx.2.1]
      refine pq_b (gone_m en.1.2 (by omega) t4) (fun r6 s7 l => ?_)
      obtain ⟨es, l⟩ := l
      subst es
      refine pq_if (fun f => ih (i + 1) _ (v2 + 1) a2 (by omega) (gh_st hv (p := False) ⟨fun z => r1_n l f z.2, fun z => z.elim⟩ (fun x _ => ?_))) (fun f => pq_n (fun x8 e8 => ih (i + 1) x8 (v2 + 1) a2 (by omega) (gh_st hv (p := True) ⟨fun _ => trivial, fun _ => ⟨r1_y k d, r1_y l f⟩⟩ (fun x _ => ?_))))
      · rw [or_0]
        exact ⟨Or.inl, fun z => z.elim id (fun y => y.2.elim)⟩
      · rw [e8, or_bit h2 (by omega)]
        exact ⟨fun z => z.elim Or.inl (fun y => Or.inr ⟨y, trivial⟩), fun z => z.elim Or.inl (fun y => Or.inr y.1)⟩
theorem ghosts_q {s t : Sg} (P : PlnR 24 s (t.1 1)) : RQ (f_X11_ghosts s) (f_X12_ghosts t) AnQ := by
  unfold f_X11_ghosts f_X12_ghosts
  have z : ∀ x, x < 32 → (bt (0 : Int32) x = true ↔ (x < 0 ∧ GhP (t.1 1) x)) := fun x _ => by
    rw [bt_0]
    exact ⟨fun z => absurd z (by decide), fun z => absurd z.1 (Nat.not_lt_zero _)⟩
  exact aq_bi (gh_c P BIG 0 0 0 rfl P.2.1.2.1.1 z) (gh_m P BIG 0 0 0 rfl P.2.1.2.1.1 z)
