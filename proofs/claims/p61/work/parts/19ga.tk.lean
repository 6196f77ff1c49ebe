/-! a street's parts keep the bounds -/
theorem pq_so {α β : Type} {r : α} {s : Sg} {k : α → Sg → Option (β × Sg)} {Q : β → Sg → Prop} (h : PQ (k r s) Q) : PQ (bd (some (r, s)) k) Q := h
def BdN (s : Sg) : Prop := BdM (mN s)
theorem bd_k {s s' : Sg} (h : BdN s) (e : s'.1 1 = s.1 1) : BdN s' := by
  unfold BdN mN at h ⊢
  rw [e]; exact h
theorem house_b106 {s : Sg} (h : BdN s) {n : Nat} (hn : (s.1 1 1920).toInt = (n : Int)) (h8 : n < 8) (v1 v3 : Int32) (hv : v1.toInt = (n : Int)) (u : Sg) (hu : ∀ p, ¬ p = 1936 + 3 * n → ¬ p = 1937 + 3 * n → u.1 1 p = s.1 1 p) (h3 : v3 = 0 → u.1 1 = s.1 1) : PQ (f_X12_aHouse_b106 v1 v3 u) (OkF BdN) := by
  have e1 : (1 : Int32).toInt = 1 := rfl
  have fin : ∀ w : Sg, (∀ p, ¬ p = 1929 → ¬ p = 1936 + 3 * n → ¬ p = 1937 + 3 * n → w.1 1 p = s.1 1 p) → (w.1 1 1929 = s.1 1 1929 ∨ (w.1 1 1929 = s.1 1 1929 ||| bitI n ∧ w.1 1 (1936 + 3 * n) = s.1 1 (1936 + 3 * n) ∧ w.1 1 (1937 + 3 * n) = s.1 1 (1937 + 3 * n))) → PQ (f_X12_aHouse_b144 w) (OkF BdN) := fun w hw g => by
    unfold f_X12_aHouse_b144
    have hw0 : w.1 1 1920 = s.1 1 1920 := hw 1920 (by decide) (by omega) (by omega)
    have ec : ∀ p, ¬ p = 0 → mN (pI w 1 1920 (w.1 1 1920 + 1)) p = w.1 1 (1920 + p) := fun p hp => by
      unfold mN
      rw [pI_1, if_neg (fun z => hp (by have := z.2; omega))]
    refine pq_s (ok_1 (hb_fin h hn h8 ?_ (fun p _ p0 p9 p16 p17 => ?_) ?_))
    · show ((pI w 1 1920 (w.1 1 1920 + 1)).1 1 1920).toInt = _
      rw [q_eq, hw0, i_addx _ 1 (by omega), hn, e1]
    · rw [ec p p0, hw _ (by omega) (by omega) (by omega)]
      rfl
    · rw [ec 9 (by decide), ec (16 + 3 * n) (by omega), ec (17 + 3 * n) (by omega)]
      have a1 : 1920 + (16 + 3 * n) = 1936 + 3 * n := by omega
      have a2 : 1920 + (17 + 3 * n) = 1937 + 3 * n := by omega
      unfold mN
      rw [a1, a2]
      exact g
  unfold f_X12_aHouse_b106
  refine pq_b (iw_k u) (fun r10 s11 g => ?_)
  subst g
  refine pq_if (fun _ => pq_if (fun c => pq_n (fun s12 e12 => pq_b (ah_k s12) (fun _ s14 k => fin s14 (fun p p9 p16 p17 => ?_) (Or.inr ⟨?_, ?_, ?_⟩)))) (fun _ => fl_x 5 s11 (by decide))) (fun _ => fin s11 (fun p _ p16 p17 => hu p p16 p17) (Or.inl (hu 1929 (by omega) (by omega))))
  · rw [k.1, e12, pI_1, if_neg (fun z => p9 z.2), h3 c]
  · rw [k.1, e12, q_eq, h3 c, bitI_v hv (by omega)]
  · rw [k.1, e12, pI_1, if_neg (fun z => by have := z.2; omega), h3 c]
  · rw [k.1, e12, pI_1, if_neg (fun z => by have := z.2; omega), h3 c]
theorem house_b {s : Sg} (h : BdN s) : PQ (f_X12_aHouse s) (OkF BdN) := by
  have cn := h.2.2.2.1
  have m0 : mN s 0 = s.1 1 1920 := rfl
  rw [m0] at cn
  unfold f_X12_aHouse
  refine pq_n (fun x1 ex => ok_b (nw_k 0 8 0 s) (fun s3 w => ?_))
  obtain ⟨w1, w2⟩ := w
  have w2 : ¬ s.1 1 1920 = 8 := w2
  have w2 := i_ne w2
  have e8 : (8 : Int32).toInt = 8 := rfl
  have e3 : (3 : Int32).toInt = 3 := rfl
  have e1 : (1 : Int32).toInt = 1 := rfl
  have eb : (1936 : Int32).toInt = 1936 := rfl
  have hn : (s.1 1 1920).toInt = ((s.1 1 1920).toInt.toNat : Int) := by omega
  have h8 : (s.1 1 1920).toInt.toNat < 8 := by omega
  generalize hnn : (s.1 1 1920).toInt.toNat = n at hn h8
  have m1 : (3 * s.1 1 1920).toInt = 3 * (s.1 1 1920).toInt := i_mulx 3 _ (show -2147483648 ≤ 3 * (s.1 1 1920).toInt ∧ 3 * (s.1 1 1920).toInt ≤ 2147483647 from by omega)
  have x0 : x1.toInt = (1936 : Int32).toInt + (3 * s.1 1 1920).toInt := by rw [ex]; exact i_addx _ _ (by omega)
  have x2 : (x1 + 1).toInt = x1.toInt + (1 : Int32).toInt := i_addx _ _ (by omega)
  have d0 : x1.toNatClampNeg = 1936 + 3 * n := cl_h (by omega)
  have d1 : (x1 + 1).toNatClampNeg = 1937 + 3 * n := cl_h (by omega)
  have b81 : ∀ (v3 : Int32) (u : Sg), ¬ v3 = 0 → (∀ p, ¬ p = 1936 + 3 * n → ¬ p = 1937 + 3 * n → u.1 1 p = s.1 1 p) → PQ (f_X12_aHouse_b81 (s.1 1 1920) x1 v3 u) (OkF BdN) := fun v3 u hv hu => by
    unfold f_X12_aHouse_b81
    refine pq_b (it_k 7 u) (fun r8 s9 k => pq_if (fun _ => house_b106 h hn h8 _ v3 hn s9 (fun p a b => by rw [k]; exact hu p a b) (fun z => absurd z hv)) (fun _ => ok_b (nu_b (x1 + 1) 0 999 s9 d1) (fun s18 g => house_b106 h hn h8 _ v3 hn s18 (fun p a b => by rw [g.1 p b, k]; exact hu p a b) (fun z => absurd z hv))))
  have b57 : ∀ (u : Sg), u.1 1 = s.1 1 → PQ (f_X12_aHouse_b57 (s.1 1 1920) x1 1 u) (OkF BdN) := fun u hu => by
    unfold f_X12_aHouse_b57
    refine pq_b (it_k 6 u) (fun r6 s7 k => pq_if (fun _ => b81 1 s7 (by decide) (fun p _ _ => by rw [k, hu])) (fun _ => ok_b (nu_b x1 0 999 s7 d0) (fun s20 g => b81 1 s20 (by decide) (fun p a _ => by rw [g.1 p a, k, hu]))))
  refine pq_b (iw_d s3) (fun r4 s5 g => ?_)
  obtain ⟨g, e4⟩ := g
  subst g
  refine pq_if (fun _ => ?_) (fun c4 => pq_b (iw_d s5) (fun r21 s22 g => ?_))
  · unfold f_X12_aHouse_b52
    exact b57 s5 w1
  · obtain ⟨g, e21⟩ := g
    subst g
    refine pq_if (fun _ => ?_) (fun c21 => ?_)
    · unfold f_X12_aHouse_b52
      exact b57 s22 w1
    · unfold f_X12_aHouse_b57
      rw [it_0 e4 c4]
      refine pq_so (pq_if (fun _ => ?_) (fun z => absurd rfl z))
      unfold f_X12_aHouse_b81
      rw [it_0 e21 c21]
      refine pq_so (pq_if (fun _ => ?_) (fun z => absurd rfl z))
      exact house_b106 h hn h8 _ 0 hn s22 (fun p _ _ => by rw [w1]) (fun _ => w1)
theorem quar_b {s : Sg} (h : BdN s) : PQ (f_X12_aQuarrel s) (OkF BdN) := by
  have cn := h.2.2.2
  have m0 : mN s 0 = s.1 1 1920 := rfl
  have m1' : mN s 1 = s.1 1 1921 := rfl
  have c0 := cn.1
  have c1 := cn.2.1
  rw [m0] at c0
  rw [m1'] at c1
  unfold f_X12_aQuarrel
  refine pq_n (fun x1 ex => ok_b (nw_k 1 8 8 s) (fun s3 w => ?_))
  obtain ⟨w1, w2⟩ := w
  have w2 : ¬ s.1 1 1921 = 8 := w2
  have w2 := i_ne w2
  have e8 : (8 : Int32).toInt = 8 := rfl
  have e5 : (5 : Int32).toInt = 5 := rfl
  have e2 : (2 : Int32).toInt = 2 := rfl
  have e1 : (1 : Int32).toInt = 1 := rfl
  have e99 : (99 : Int32).toInt = 99 := rfl
  have eb : (1960 : Int32).toInt = 1960 := rfl
  have hn : (s.1 1 1921).toInt = ((s.1 1 1921).toInt.toNat : Int) := by omega
  have h8 : (s.1 1 1921).toInt.toNat < 8 := by omega
  generalize hnn : (s.1 1 1921).toInt.toNat = q at hn h8
  have m1 : (5 * s.1 1 1921).toInt = 5 * (s.1 1 1921).toInt := i_mulx 5 _ (show -2147483648 ≤ 5 * (s.1 1 1921).toInt ∧ 5 * (s.1 1 1921).toInt ≤ 2147483647 from by omega)
  have x0 : x1.toInt = (1960 : Int32).toInt + (5 * s.1 1 1921).toInt := by rw [ex]; exact i_addx _ _ (by omega)
  have x2 : (x1 + 2).toInt = x1.toInt + (2 : Int32).toInt := i_addx _ _ (by omega)
  have d2 : (x1 + 2).toNatClampNeg = 1962 + 5 * q := cl_h (by omega)
  refine ok_b (ww_k 8 s3) (fun s5 k => ok_b (two_k x1 9 0 s5 (by rw [k.1, w1]; exact c0.2) (p0 := 1960 + 5 * q) (by omega) (by omega)) (fun s7 e => ok_b (ww_k 10 s7) (fun s9 k2 => ok_b (nu_b (x1 + 2) 1 99 s9 d2) (fun s11 g => pq_n (fun s12 e12 => pq_s (ok_1 ?_))))))
  have sm : ∀ p, ¬ p = 1 → ¬ p = 40 + 5 * q → ¬ p = 41 + 5 * q → ¬ p = 42 + 5 * q → mN s12 p = mN s p := fun p p1 p2 p3 p4 => by
    unfold mN
    rw [e12, pI_1, if_neg (fun z => p1 (by have := z.2; omega)), g.1 _ (by omega), k2.1, e.1 _ (by omega) (by omega), k.1, w1]
  have n21 : s11.1 1 1921 = s.1 1 1921 := by rw [g.1 _ (by omega), k2.1, e.1 _ (by omega) (by omega), k.1, w1]
  have c12 : (mN s12 1).toInt = (q : Int) + 1 := by
    show (s12.1 1 1921).toInt = _
    rw [e12, q_eq, n21, i_addx _ 1 (by omega), hn, e1]
  have v42 : mN s12 (42 + 5 * q) = s11.1 1 (1962 + 5 * q) := by
    unfold mN
    rw [e12, pI_1, if_neg (fun z => by have := z.2; omega)]
    exact congrArg (s11.1 1) (by omega)
  obtain ⟨⟨⟨p1, p2, p3, p4, p5, p6⟩, gz⟩, ⟨z1, z2, z3⟩, ce, ⟨b1, b2, b3, b4⟩⟩ := h
  have hq1 : (mN s 1).toInt = (q : Int) := hn
  refine bd_fin ⟨⟨⟨p1, p2, p3, p4, p5, p6⟩, gz⟩, ⟨z1, z2, z3⟩, ce, ⟨b1, b2, b3, b4⟩⟩ (sm 0 (by omega) (by omega) (by omega) (by omega)) (sm 9 (by omega) (by omega) (by omega) (by omega)) (fun p _ _ => sm p (by omega) (by omega) (by omega) (by omega)) (fun x hx => ?_) (by omega) (fun c hc => ?_) ?_ (fun x hx => ?_) ?_ (fun x hx hx3 => ?_) ?_ ?_
  · by_cases z : x = q
    · subst z
      rw [v42]
      have := g.2
      omega
    · rw [sm _ (by omega) (by omega) (by omega) (by omega)]
      exact p1 x (by omega)
  · rw [sm 2 (by omega) (by omega) (by omega) (by omega)] at hc
    rw [sm _ (by omega) (by omega) (by omega) (by omega), sm _ (by omega) (by omega) (by omega) (by omega), sm _ (by omega) (by omega) (by omega) (by omega)]
    exact ⟨p2 c hc, ce c hc⟩
  · rw [sm 2 (by omega) (by omega) (by omega) (by omega)]; exact b3
  · rw [sm 3 (by omega) (by omega) (by omega) (by omega)] at hx
    rw [sm _ (by omega) (by omega) (by omega) (by omega), sm _ (by omega) (by omega) (by omega) (by omega)]
    exact p3 x hx
  · rw [sm 3 (by omega) (by omega) (by omega) (by omega)]; exact b4
  · rw [sm 3 (by omega) (by omega) (by omega) (by omega)] at hx3
    rw [sm _ (by omega) (by omega) (by omega) (by omega)]
    exact z3 x hx hx3
  · rw [sm 13 (by omega) (by omega) (by omega) (by omega)]; exact p4
  · rw [sm 14 (by omega) (by omega) (by omega) (by omega)]; exact p6
theorem cat_b {s : Sg} (h : BdN s) : PQ (f_X12_aCat s) (OkF BdN) := by
  have cn := h.2.2.2
  have m0 : mN s 0 = s.1 1 1920 := rfl
  have m1' : mN s 2 = s.1 1 1922 := rfl
  have c0 := cn.1
  have c1 := cn.2.2.1
  rw [m0] at c0
  rw [m1'] at c1
  unfold f_X12_aCat
  refine pq_n (fun x1 ex => ok_b (nw_k 2 4 16 s) (fun s3 w => ?_))
  obtain ⟨w1, w2⟩ := w
  have w2 : ¬ s.1 1 1922 = 4 := w2
  have w2 := i_ne w2
  have e4 : (4 : Int32).toInt = 4 := rfl
  have e3 : (3 : Int32).toInt = 3 := rfl
  have e2 : (2 : Int32).toInt = 2 := rfl
  have e1 : (1 : Int32).toInt = 1 := rfl
  have e99 : (99 : Int32).toInt = 99 := rfl
  have eb : (2000 : Int32).toInt = 2000 := rfl
  have hn : (s.1 1 1922).toInt = ((s.1 1 1922).toInt.toNat : Int) := by omega
  have h8 : (s.1 1 1922).toInt.toNat < 4 := by omega
  generalize hnn : (s.1 1 1922).toInt.toNat = q at hn h8
  have m1 : (3 * s.1 1 1922).toInt = 3 * (s.1 1 1922).toInt := i_mulx 3 _ (show -2147483648 ≤ 3 * (s.1 1 1922).toInt ∧ 3 * (s.1 1 1922).toInt ≤ 2147483647 from by omega)
  have x0 : x1.toInt = (2000 : Int32).toInt + (3 * s.1 1 1922).toInt := by rw [ex]; exact i_addx _ _ (by omega)
  have x2 : (x1 + 2).toInt = x1.toInt + (2 : Int32).toInt := i_addx _ _ (by omega)
  have d2 : (x1 + 2).toNatClampNeg = 2002 + 3 * q := cl_h (by omega)
  refine ok_b (ww_k 11 s3) (fun s5 k => ok_b (two_k x1 12 1 s5 (by rw [k.1, w1]; exact c0.2) (p0 := 2000 + 3 * q) (by omega) (by omega)) (fun s7 e => ok_b (ww_k 13 s7) (fun s9 k2 => ok_b (nu_b (x1 + 2) 1 99 s9 d2) (fun s11 g => pq_n (fun s12 e12 => pq_s (ok_1 ?_))))))
  have sm : ∀ p, ¬ p = 2 → ¬ p = 80 + 3 * q → ¬ p = 81 + 3 * q → ¬ p = 82 + 3 * q → mN s12 p = mN s p := fun p p1 p2 p3 p4 => by
    unfold mN
    rw [e12, pI_1, if_neg (fun z => p1 (by have := z.2; omega)), g.1 _ (by omega), k2.1, e.1 _ (by omega) (by omega), k.1, w1]
  have n21 : s11.1 1 1922 = s.1 1 1922 := by rw [g.1 _ (by omega), k2.1, e.1 _ (by omega) (by omega), k.1, w1]
  have c12 : (mN s12 2).toInt = (q : Int) + 1 := by
    show (s12.1 1 1922).toInt = _
    rw [e12, q_eq, n21, i_addx _ 1 (by omega), hn, e1]
  have v82 : mN s12 (82 + 3 * q) = s11.1 1 (2002 + 3 * q) := by
    unfold mN
    rw [e12, pI_1, if_neg (fun z => by have := z.2; omega)]
    exact congrArg (s11.1 1) (by omega)
  have v80 : mN s12 (80 + 3 * q) = s7.1 1 (2000 + 3 * q) := by
    unfold mN
    rw [e12, pI_1, if_neg (fun z => by have := z.2; omega), g.1 _ (by omega), k2.1]
    exact congrArg (s7.1 1) (by omega)
  have v81 : mN s12 (81 + 3 * q) = s7.1 1 (2000 + 3 * q + 1) := by
    unfold mN
    rw [e12, pI_1, if_neg (fun z => by have := z.2; omega), g.1 _ (by omega), k2.1]
    exact congrArg (s7.1 1) (by omega)
  obtain ⟨-, t1, t2⟩ := e
  have t2 := t2 (by decide)
  have n20 : s5.1 1 1920 = mN s 0 := by rw [k.1, w1]; rfl
  have n29 : s5.1 1 1929 = mN s 9 := by rw [k.1, w1]; rfl
  rw [n20] at t1
  rw [n29] at t2
  obtain ⟨⟨⟨p1, p2, p3, p4, p5, p6⟩, gz⟩, ⟨z1, z2, z3⟩, ce, ⟨b1, b2, b3, b4⟩⟩ := h
  have hq1 : (mN s 2).toInt = (q : Int) := hn
  refine bd_fin ⟨⟨⟨p1, p2, p3, p4, p5, p6⟩, gz⟩, ⟨z1, z2, z3⟩, ce, ⟨b1, b2, b3, b4⟩⟩ (sm 0 (by omega) (by omega) (by omega) (by omega)) (sm 9 (by omega) (by omega) (by omega) (by omega)) (fun p _ _ => sm p (by omega) (by omega) (by omega) (by omega)) (fun x hx => ?_) ?_ (fun c hc => ?_) (by omega) (fun x hx => ?_) ?_ (fun x hx hx3 => ?_) ?_ ?_
  · rw [sm 1 (by omega) (by omega) (by omega) (by omega)] at hx
    rw [sm _ (by omega) (by omega) (by omega) (by omega)]
    exact p1 x hx
  · rw [sm 1 (by omega) (by omega) (by omega) (by omega)]; exact b2
  · by_cases z : c = q
    · subst z
      rw [v80, v81, v82]
      exact ⟨⟨by have := g.2; omega, t2.1, t2.2⟩, t1.1, t1.2⟩
    · rw [sm _ (by omega) (by omega) (by omega) (by omega), sm _ (by omega) (by omega) (by omega) (by omega), sm _ (by omega) (by omega) (by omega) (by omega)]
      exact ⟨p2 c (by omega), ce c (by omega)⟩
  · rw [sm 3 (by omega) (by omega) (by omega) (by omega)] at hx
    rw [sm _ (by omega) (by omega) (by omega) (by omega), sm _ (by omega) (by omega) (by omega) (by omega)]
    exact p3 x hx
  · rw [sm 3 (by omega) (by omega) (by omega) (by omega)]; exact b4
  · rw [sm 3 (by omega) (by omega) (by omega) (by omega)] at hx3
    rw [sm _ (by omega) (by omega) (by omega) (by omega)]
    exact z3 x hx hx3
  · rw [sm 13 (by omega) (by omega) (by omega) (by omega)]; exact p4
  · rw [sm 14 (by omega) (by omega) (by omega) (by omega)]; exact p6
theorem groc_b {s : Sg} (h : BdN s) : PQ (f_X12_aGrocer s) (OkF BdN) := by
  have cn := h.2.2.2
  have m1' : mN s 3 = s.1 1 1923 := rfl
  have c1 := cn.2.2.2
  rw [m1'] at c1
  unfold f_X12_aGrocer
  refine pq_n (fun x1 ex => ok_b (nw_k 3 4 20 s) (fun s3 w => ?_))
  obtain ⟨w1, w2⟩ := w
  have w2 : ¬ s.1 1 1923 = 4 := w2
  have w2 := i_ne w2
  have e4 : (4 : Int32).toInt = 4 := rfl
  have e3 : (3 : Int32).toInt = 3 := rfl
  have e2 : (2 : Int32).toInt = 2 := rfl
  have e1 : (1 : Int32).toInt = 1 := rfl
  have e0 : (0 : Int32).toInt = 0 := rfl
  have e16 : (16 : Int32).toInt = 16 := rfl
  have e99 : (99 : Int32).toInt = 99 := rfl
  have eb : (2012 : Int32).toInt = 2012 := rfl
  have hn : (s.1 1 1923).toInt = ((s.1 1 1923).toInt.toNat : Int) := by omega
  have h8 : (s.1 1 1923).toInt.toNat < 4 := by omega
  generalize hnn : (s.1 1 1923).toInt.toNat = q at hn h8
  have m1 : (3 * s.1 1 1923).toInt = 3 * (s.1 1 1923).toInt := i_mulx 3 _ (show -2147483648 ≤ 3 * (s.1 1 1923).toInt ∧ 3 * (s.1 1 1923).toInt ≤ 2147483647 from by omega)
  have x0 : x1.toInt = (2012 : Int32).toInt + (3 * s.1 1 1923).toInt := by rw [ex]; exact i_addx _ _ (by omega)
  have x2 : (x1 + 1).toInt = x1.toInt + (1 : Int32).toInt := i_addx _ _ (by omega)
  have x3 : (x1 + 2).toInt = x1.toInt + (2 : Int32).toInt := i_addx _ _ (by omega)
  have d0 : x1.toNatClampNeg = 2012 + 3 * q := cl_h (by omega)
  have d1 : (x1 + 1).toNatClampNeg = 2013 + 3 * q := cl_h (by omega)
  have d2 : (x1 + 2).toNatClampNeg = 2014 + 3 * q := cl_h (by omega)
  refine ok_b (ww_k 14 s3) (fun s5 k => ok_b (nu_b x1 0 999 s5 d0) (fun s7 g1 => ok_b (ww_k 15 s7) (fun s9 k2 => ok_b (nu_b (x1 + 1) 1 99 s9 d1) (fun s11 g2 => pq_b (it_k 16 s11) (fun r12 s13 k3 => ?_)))))
  obtain ⟨⟨⟨p1, p2, p3, p4, p5, p6⟩, gz⟩, ⟨z1, z2, z3⟩, ce, ⟨b1, b2, b3, b4⟩⟩ := h
  have hq1 : (mN s 3).toInt = (q : Int) := hn
  have a13 : ∀ p, ¬ p = 2012 + 3 * q → ¬ p = 2013 + 3 * q → s13.1 1 p = s.1 1 p := fun p a b => by rw [k3, g2.1 p b, k2.1, g1.1 p a, k.1, w1]
  have a93 : s13.1 1 (2013 + 3 * q) = s11.1 1 (2013 + 3 * q) := by rw [k3]
  have fin : ∀ u : Sg, (∀ p, ¬ p = 2014 + 3 * q → u.1 1 p = s13.1 1 p) → (0 ≤ (u.1 1 (2014 + 3 * q)).toInt ∧ (u.1 1 (2014 + 3 * q)).toInt ≤ 16) → PQ (f_X12_aGrocer_b101 u) (OkF BdN) := fun u hu hs => by
    unfold f_X12_aGrocer_b101
    refine pq_s (ok_1 ?_)
    have sm : ∀ p, ¬ p = 3 → ¬ p = 92 + 3 * q → ¬ p = 93 + 3 * q → ¬ p = 94 + 3 * q → mN (pI u 1 1923 (u.1 1 1923 + 1)) p = mN s p := fun p p1 p2 p3 p4 => by
      unfold mN
      rw [pI_1, if_neg (fun z => p1 (by have := z.2; omega)), hu _ (by omega), a13 _ (by omega) (by omega)]
    have n23 : u.1 1 1923 = s.1 1 1923 := by rw [hu _ (by omega), a13 _ (by omega) (by omega)]
    have c12 : (mN (pI u 1 1923 (u.1 1 1923 + 1)) 3).toInt = (q : Int) + 1 := by
      show ((pI u 1 1923 (u.1 1 1923 + 1)).1 1 1923).toInt = _
      rw [q_eq, n23, i_addx _ 1 (by omega), hn, e1]
    have v93 : mN (pI u 1 1923 (u.1 1 1923 + 1)) (93 + 3 * q) = s11.1 1 (2013 + 3 * q) := by
      unfold mN
      rw [pI_1, if_neg (fun z => by have := z.2; omega), hu _ (by omega), ← a93]
      exact congrArg (s13.1 1) (by omega)
    have v94 : mN (pI u 1 1923 (u.1 1 1923 + 1)) (94 + 3 * q) = u.1 1 (2014 + 3 * q) := by
      unfold mN
      rw [pI_1, if_neg (fun z => by have := z.2; omega)]
      exact congrArg (u.1 1) (by omega)
    refine bd_fin ⟨⟨⟨p1, p2, p3, p4, p5, p6⟩, gz⟩, ⟨z1, z2, z3⟩, ce, ⟨b1, b2, b3, b4⟩⟩ (sm 0 (by omega) (by omega) (by omega) (by omega)) (sm 9 (by omega) (by omega) (by omega) (by omega)) (fun p _ _ => sm p (by omega) (by omega) (by omega) (by omega)) (fun x hx => ?_) ?_ (fun c hc => ?_) ?_ (fun x hx => ?_) (by omega) (fun x hx hx3 => ?_) ?_ ?_
    · rw [sm 1 (by omega) (by omega) (by omega) (by omega)] at hx
      rw [sm _ (by omega) (by omega) (by omega) (by omega)]
      exact p1 x hx
    · rw [sm 1 (by omega) (by omega) (by omega) (by omega)]; exact b2
    · rw [sm 2 (by omega) (by omega) (by omega) (by omega)] at hc
      rw [sm _ (by omega) (by omega) (by omega) (by omega), sm _ (by omega) (by omega) (by omega) (by omega), sm _ (by omega) (by omega) (by omega) (by omega)]
      exact ⟨p2 c hc, ce c hc⟩
    · rw [sm 2 (by omega) (by omega) (by omega) (by omega)]; exact b3
    · by_cases z : x = q
      · subst z
        rw [v93, v94]
        exact ⟨by have := g2.2; omega, hs⟩
      · rw [sm _ (by omega) (by omega) (by omega) (by omega), sm _ (by omega) (by omega) (by omega) (by omega)]
        exact p3 x (by omega)
    · rw [sm _ (by omega) (by omega) (by omega) (by omega)]
      exact z3 x hx (by omega)
    · rw [sm 13 (by omega) (by omega) (by omega) (by omega)]; exact p4
    · rw [sm 14 (by omega) (by omega) (by omega) (by omega)]; exact p6
  refine pq_if (fun _ => fin s13 (fun _ _ => rfl) ?_) (fun _ => ok_b (nu_b (x1 + 2) 0 16 s13 d2) (fun s15 g3 => fin s15 g3.1 (by have := g3.2; omega)))
  have z : mN s (94 + 3 * q) = 0 := z3 q h8 (by omega)
  have z : s.1 1 (2014 + 3 * q) = 0 := by
    rw [← z]
    exact congrArg (s.1 1) (by omega)
  rw [a13 _ (by omega) (by omega), z, e0]
  omega
theorem once_b {s : Sg} (h : BdN s) (a1 : Int32) : PQ (f_X12_once a1 s) (OkF BdN) := by
  have e0 : (0 : Int32).toInt = 0 := rfl
  have e99 : (99 : Int32).toInt = 99 := rfl
  unfold f_X12_once
  refine pq_b (ah_k s) (fun _ s2 k => pq_b (iw_k s2) (fun r3 s4 g => ?_))
  subst g
  refine pq_if (fun _ => pq_if (fun _ => fl_x 5 s4 (by decide)) (fun _ => pq_n (fun s7 e7 => pq_b (ah_k s7) (fun _ s9 k9 => ?_)))) (fun _ => fl_x 2 s4 (by decide))
  have m9 : s9.1 1 = s.1 1 := by rw [k9.1, e7, pI_o _ _ _ _ _ (by decide), k.1]
  obtain ⟨⟨⟨p1, p2, p3, p4, p5, p6⟩, gz⟩, ⟨z1, z2, z3⟩, ce, ⟨b1, b2, b3, b4⟩⟩ := h
  have fin : ∀ u : Sg, (∀ p, ¬ p = 13 → ¬ p = 14 → mN u p = mN s p) → (0 ≤ (mN u 13).toInt ∧ (mN u 13).toInt ≤ 99) → (mN u 14 = 0 ∨ mN u 14 = 1) → BdN u := fun u sm w c => by
    refine bd_fin (M := mN s) ⟨⟨⟨p1, p2, p3, p4, p5, p6⟩, gz⟩, ⟨z1, z2, z3⟩, ce, ⟨b1, b2, b3, b4⟩⟩ (sm 0 (by decide) (by decide)) (sm 9 (by decide) (by decide)) (fun p _ _ => sm p (by omega) (by omega)) (fun x hx => ?_) ?_ (fun c hc => ?_) ?_ (fun x hx => ?_) ?_ (fun x hx hx3 => ?_) w c
    · rw [sm 1 (by decide) (by decide)] at hx
      rw [sm _ (by omega) (by omega)]
      exact p1 x hx
    · rw [sm 1 (by decide) (by decide)]; exact b2
    · rw [sm 2 (by decide) (by decide)] at hc
      rw [sm _ (by omega) (by omega), sm _ (by omega) (by omega), sm _ (by omega) (by omega)]
      exact ⟨p2 c hc, ce c hc⟩
    · rw [sm 2 (by decide) (by decide)]; exact b3
    · rw [sm 3 (by decide) (by decide)] at hx
      rw [sm _ (by omega) (by omega), sm _ (by omega) (by omega)]
      exact p3 x hx
    · rw [sm 3 (by decide) (by decide)]; exact b4
    · rw [sm 3 (by decide) (by decide)] at hx3
      rw [sm _ (by omega) (by omega)]
      exact z3 x hx hx3
  refine pq_if (fun _ => ok_c (pq_w (nu_b 1933 0 99 s9 (p0 := 1933) rfl) (fun r u w => ⟨w.1, fun c => ?_⟩))) (fun _ => pq_s (ok_1 (fin _ (fun p a b => ?_) ?_ ?_)))
  · have g := w.2 c
    refine fin u (fun p a b => ?_) ?_ ?_
    · unfold mN
      rw [g.1 _ (by omega), m9]
    · show 0 ≤ (u.1 1 1933).toInt ∧ (u.1 1 1933).toInt ≤ 99
      have := g.2
      omega
    · show u.1 1 1934 = 0 ∨ u.1 1 1934 = 1
      rw [g.1 _ (by decide), m9]
      exact p6
  · unfold mN
    rw [pI_1, if_neg (fun z => b (by have := z.2; omega)), m9]
  · show 0 ≤ ((pI s9 1 1934 1).1 1 1933).toInt ∧ ((pI s9 1 1934 1).1 1 1933).toInt ≤ 99
    rw [q_ne rfl, m9]
    exact p4
  · show (pI s9 1 1934 1).1 1 1934 = 0 ∨ (pI s9 1 1934 1).1 1 1934 = 1
    rw [q_eq]
    exact Or.inr rfl
theorem part_b {s : Sg} (h : BdN s) : PQ (f_X12_streetPart s) (OkF BdN) := by
  unfold f_X12_streetPart
  refine pq_b (iw_k s) (fun r1 s2 g => ?_)
  subst g
  have b : ∀ (o : Option (Int32 × Sg)), PQ o (OkF BdN) → PQ (bd o (fun r s => f_X12_streetPart_b102 r s)) (OkF BdN) := fun o ho => by
    refine pq_b ho (fun r s4 w => ?_)
    unfold f_X12_streetPart_b102
    refine pq_if (fun c => pq_s ⟨fun _ => w.1 c, fun x => absurd rfl x⟩) (fun c => pq_b (ws_k 59 s4) (fun r5 s6 y => pq_if (fun d => pq_s ⟨fun _ => y.1 d, fun x => absurd rfl x⟩) (fun d => pq_s (ok_1 (bd_k (w.2 c) (y.2 d).1)))))
  exact pq_if (fun _ => b _ (house_b h)) (fun _ => pq_if (fun _ => b _ (quar_b h)) (fun _ => pq_if (fun _ => b _ (cat_b h)) (fun _ => pq_if (fun _ => b _ (groc_b h)) (fun _ => pq_if (fun _ => b _ (once_b h 17)) (fun _ => pq_if (fun _ => b _ (once_b h 18)) (fun _ => fl_x 2 s2 (by decide)))))))
