/-! texts: the class goes on to the next token -/
def KindC (B : Nat → Int32) (n st en : Nat) (s : Sg) : Prop := (st = n ∧ s.1 7 3 = 0) ∨ (st < n ∧ isL (B st) ∧ ((8 < en - st ∧ s.1 7 3 = 2) ∨ (en - st ≤ 8 ∧ s.2 7 6 = p27 B st (en - st) ∧ s.1 7 3 = kwf (p27 B st (en - st)) (flatK KWC) 100 0))) ∨ (st < n ∧ isD (B st) ∧ ((en - st ≤ 4 ∧ s.1 7 3 = 3 ∧ (s.1 7 5).toInt = (dv B st (en - st) : Int)) ∨ (4 < en - st ∧ s.1 7 3 = 4))) ∨ (st < n ∧ ¬ isL (B st) ∧ ¬ isD (B st) ∧ ((isS (B st) ∧ s.1 7 3 = B st) ∨ (¬ isS (B st) ∧ s.1 7 3 = 4)))
theorem a52_c (B : Nat → Int32) (n st : Nat) {s : Sg} (ha : TkA B n s) (h2 : (s.1 7 2).toInt = (st : Int)) (h3 : st ≤ n) : PQ (f_X7_advance_b52 s) (fun _ s9 => ∃ en : Nat, TokE B n st en ∧ (s9.1 7 4).toInt = (st : Int) ∧ (s9.1 7 2).toInt = (en : Int) ∧ KindC B n st en s9) := by
  unfold f_X7_advance_b52
  have f2 : (pI s 7 4 (s.1 7 2)).1 7 2 = s.1 7 2 := q_ne rfl
  have f1 : (pI s 7 4 (s.1 7 2)).1 7 1 = s.1 7 1 := q_ne rfl
  have f4 : (pI s 7 4 (s.1 7 2)).1 7 4 = s.1 7 2 := q_eq
  have f0 : (pI s 7 4 (s.1 7 2)).1 1 = s.1 1 := p_ne1 rfl
  generalize pI s 7 4 (s.1 7 2) = s1 at f2 f1 f4 f0 ⊢
  have ha1 : TkA B n s1 := ⟨by rw [f0]; exact ha.1, by rw [f1]; exact ha.2.1, ha.2.2⟩
  have g2 : (s1.1 7 2).toInt = (st : Int) := by rw [f2]; exact h2
  have g4 : (s1.1 7 4).toInt = (st : Int) := by rw [f4]; exact h2
  have hn := ha1.2.1
  have h9 := ha1.2.2
  have cl := cl_nat (s1.1 7 2)
  have d : (s1.1 7 2).toNatClampNeg = st := by omega
  refine pq_if (fun c => pq_c (fun _ => ?_)) (fun c => pq_s ⟨n, Or.inl ⟨?_, rfl⟩, by rw [q_ne rfl]; exact g4, ?_, Or.inl ⟨?_, q_eq⟩⟩)
  · have c := i_lt c
    have hst : st < n := by omega
    refine pq_b (il_p _ s1) (fun r2 s3 g => ?_)
    obtain ⟨es, g⟩ := g
    subst es
    rw [ha1.1, d] at g
    refine pq_if (fun c2 => pq_c (fun _ => pq_b (id_p _ s3) (fun r5 s6 gd => ?_))) (fun c2 => ?_)
    · have nl := r1_n g c2
      obtain ⟨es, gd⟩ := gd
      subst es
      rw [ha1.1, d] at gd
      refine pq_if (fun c5 => ?_) (fun c5 => ?_)
      · have nd := r1_n gd c5
        refine pq_b (pq_and (cs_p B n st ha1 g2 hst) (ft_X7_cutSign s6)) (fun _ s8 g8 => pq_s ⟨st + 1, Or.inr ⟨hst, Or.inr (Or.inr ⟨nl, nd, rfl⟩)⟩, ?_, ?_, Or.inr (Or.inr (Or.inr ⟨hst, nl, nd, g8.1.2⟩))⟩)
        · rw [fr_e g8.2 7 4 184 rfl rfl]; exact g4
        · rw [g8.1.1]; omega
      · have yd := r1_y gd c5
        refine pq_b (pq_and (cn_p B n st ha1 g4 g2 hst yd) (ft_X7_cutNumber s6)) (fun _ s10 g10 => ?_)
        obtain ⟨⟨en, w1, w2, w3⟩, gf⟩ := g10
        refine pq_s ⟨en, Or.inr ⟨hst, Or.inr (Or.inl ⟨yd, w1⟩)⟩, ?_, w2, Or.inr (Or.inr (Or.inl ⟨hst, yd, w3⟩))⟩
        rw [fr_e gf 7 4 184 rfl rfl]; exact g4
    · have yl := r1_y g c2
      refine pq_b (pq_and (cw_p B n st ha1 g4 g2 hst yl) (ft_X7_cutWord s3)) (fun _ s12 g12 => ?_)
      obtain ⟨⟨en, w1, w2, w3⟩, gf⟩ := g12
      have k4 : (s12.1 7 4).toInt = (st : Int) := by rw [fr_e gf 7 4 184 rfl rfl]; exact g4
      have sb := i_sub (s12.1 7 2) (s12.1 7 4)
      have e8 : (8 : Int32).toInt = 8 := rfl
      have w1a := w1.1
      have w1b := w1.2.1
      refine pq_if (fun c8 => pq_b (kk_p _ s12) (fun r13 s14 g14 => ?_)) (fun c8 => pq_s ⟨en, Or.inr ⟨hst, Or.inl ⟨yl, w1⟩⟩, by rw [q_ne rfl]; exact k4, by rw [q_ne rfl]; exact w2, Or.inr (Or.inl ⟨hst, yl, Or.inl ⟨?_, q_eq⟩⟩)⟩)
      · have c8 := i_le c8
        obtain ⟨es, g14⟩ := g14
        subst es
        have k8 : min (en - st) 8 = en - st := by omega
        rw [k8] at w3
        refine pq_s ⟨en, Or.inr ⟨hst, Or.inl ⟨yl, w1⟩⟩, by rw [q_ne rfl]; exact k4, by rw [q_ne rfl]; exact w2, Or.inr (Or.inl ⟨hst, yl, Or.inr ⟨by omega, w3, ?_⟩⟩)⟩
        rw [q_eq, g14, w3]
      · have c8 := i_nle c8
        omega
  · have c := i_nlt c
    omega
  · rw [q_ne rfl]
    have c := i_nlt c
    omega
  · have c := i_nlt c
    omega
theorem a0_c (B : Nat → Int32) (n p : Nat) (m : Nat) : ∀ (i : Nat) (s : Sg), TkA B n s → (s.1 7 2).toInt = (i : Int) → p ≤ i → i ≤ n → (∀ j, p ≤ j → j < i → isB (B j)) → PQ (f_X7_advance_b0 m s) (fun _ s9 => ∃ st en : Nat, TokS B n p st ∧ TokE B n st en ∧ (s9.1 7 4).toInt = (st : Int) ∧ (s9.1 7 2).toInt = (en : Int) ∧ KindC B n st en s9) := by
  induction m with
  | zero => intro i s _ _ _ _ _ r s9 e; cases e
  | succ m ih =>
    intro i s ha h2 h1 h3 hb
    have e1 : (1 : Int32).toInt = 1 := rfl
    have hn := ha.2.1
    have h9 := ha.2.2
    have cl := cl_nat (s.1 7 2)
    have d : (s.1 7 2).toNatClampNeg = i := by omega
    have fin : (i = n ∨ ¬ isB (B i)) → PQ (f_X7_advance_b52 s) (fun _ s9 => ∃ st en : Nat, TokS B n p st ∧ TokE B n st en ∧ (s9.1 7 4).toInt = (st : Int) ∧ (s9.1 7 2).toInt = (en : Int) ∧ KindC B n st en s9) := fun w => pq_w (a52_c B n i ha h2 h3) (fun _ s9 ⟨en, g⟩ => ⟨i, en, ⟨h1, h3, hb, w⟩, g⟩)
    unfold f_X7_advance_b0
    refine pq_if (fun c => fin (Or.inl ?_)) (fun c => pq_c (fun _ => ?_))
    · have c := i_le c
      omega
    · have c := i_nle c
      have a1 : ((s.1 7 2) + 1).toInt = (s.1 7 2).toInt + 1 := i_addx (s.1 7 2) 1 (show -2147483648 ≤ (s.1 7 2).toInt + 1 ∧ (s.1 7 2).toInt + 1 ≤ 2147483647 from by omega)
      rw [ha.1, d]
      have nx : isB (B i) → PQ (f_X7_advance_b0 m (pI s 7 2 ((s.1 7 2) + 1))) (fun _ s9 => ∃ st en : Nat, TokS B n p st ∧ TokE B n st en ∧ (s9.1 7 4).toInt = (st : Int) ∧ (s9.1 7 2).toInt = (en : Int) ∧ KindC B n st en s9) := fun w => ih (i + 1) _ ⟨by rw [p_ne1 rfl]; exact ha.1, by rw [q_ne rfl]; exact hn, h9⟩ (by rw [q_eq, a1]; omega) (by omega) (by omega) (fun j j1 j2 => by
        by_cases q : j = i
        · rw [q]; exact w
        · exact hb j j1 (by omega))
      refine pq_if (fun c1 => nx (Or.inl c1)) (fun c1 => pq_if (fun c2 => nx (Or.inr c2)) (fun c2 => fin (Or.inr ?_)))
      rintro (w | w)
      · exact c1 w
      · exact c2 w
theorem adv_c (B : Nat → Int32) (n p : Nat) {s : Sg} (ha : TkA B n s) (h2 : (s.1 7 2).toInt = (p : Int)) (h3 : p ≤ n) : PQ (f_X7_advance s) (fun _ s9 => TkA B n s9 ∧ ∃ st en : Nat, TokS B n p st ∧ TokE B n st en ∧ (s9.1 7 4).toInt = (st : Int) ∧ (s9.1 7 2).toInt = (en : Int) ∧ KindC B n st en s9) := by
  refine pq_w (pq_and (show PQ (f_X7_advance s) _ from by unfold f_X7_advance; exact a0_c B n p BIG p s ha h2 (Nat.le_refl _) h3 (fun j j1 j2 => by omega)) (ft_X7_advance s)) (fun _ s9 g => ⟨⟨?_, ?_, ha.2.2⟩, g.1⟩)
  · rw [← ha.1]
    funext k
    exact fr_e g.2 1 k 1 rfl rfl
  · rw [fr_e g.2 7 1 181 rfl rfl]
    exact ha.2.1
/-! texts: the reference goes on to the next token -/
def byM (s : Sg) : Nat → Int32 := fun k => s.1 7 k &&& 255
def TkM (n : Nat) (s : Sg) : Prop := (s.1 0 11).toInt = (n : Int) ∧ n ≤ 900
theorem by_p (a : Int32) (n : Nat) {s : Sg} (hm : TkM n s) (h0 : 0 ≤ a.toInt) : PQ (f_X12_byteAt a s) (fun r s9 => s9 = s ∧ (((n : Int) ≤ a.toInt ∧ r = -1) ∨ (a.toInt < (n : Int) ∧ r = byM s a.toNatClampNeg))) := by
  have hn := hm.1
  unfold f_X12_byteAt
  refine pq_if (fun c => pq_s ⟨rfl, Or.inl ⟨?_, rfl⟩⟩) (fun c => pq_c (fun _ => pq_s ⟨rfl, Or.inr ⟨?_, rfl⟩⟩))
  · have := i_le c
    omega
  · have := i_nle c
    omega
theorem sml_p (a : Int32) (s : Sg) : PQ (f_X12_isSmall a s) (fun r s9 => s9 = s ∧ ((r = 1 ∧ isL a) ∨ (r = 0 ∧ ¬ isL a))) := by
  have e1 : (97 : Int32).toInt = 97 := rfl
  have e2 : (122 : Int32).toInt = 122 := rfl
  unfold f_X12_isSmall isL
  refine pq_if (fun c => pq_s ⟨rfl, Or.inr ⟨rfl, ?_⟩⟩) (fun c => pq_if (fun c2 => pq_s ⟨rfl, Or.inr ⟨rfl, ?_⟩⟩) (fun c2 => pq_s ⟨rfl, Or.inl ⟨rfl, ?_, ?_⟩⟩))
  · have := i_lt c
    omega
  · have := i_lt c2
    omega
  · have := i_nlt c
    omega
  · have := i_nlt c2
    omega
theorem dgm_p (a : Int32) (s : Sg) : PQ (f_X12_isDigit a s) (fun r s9 => s9 = s ∧ ((r = 1 ∧ isD a) ∨ (r = 0 ∧ ¬ isD a))) := by
  have e1 : (48 : Int32).toInt = 48 := rfl
  have e2 : (57 : Int32).toInt = 57 := rfl
  unfold f_X12_isDigit isD
  refine pq_if (fun c => pq_s ⟨rfl, Or.inr ⟨rfl, ?_⟩⟩) (fun c => pq_if (fun c2 => pq_s ⟨rfl, Or.inr ⟨rfl, ?_⟩⟩) (fun c2 => pq_s ⟨rfl, Or.inl ⟨rfl, ?_, ?_⟩⟩))
  · have := i_lt c
    omega
  · have := i_lt c2
    omega
  · have := i_nlt c
    omega
  · have := i_nlt c2
    omega
theorem nlm1 : ¬ isL (-1) := fun h => absurd h.1 (by decide)
theorem ndm1 : ¬ isD (-1) := fun h => absurd h.1 (by decide)
theorem by255 (s : Sg) (k : Nat) : 0 ≤ (byM s k).toInt ∧ (byM s k).toInt ≤ 255 := i_and (s.1 7 k) 255 (by decide)
def KindM (B : Nat → Int32) (n st en : Nat) (s : Sg) : Prop := (st = n ∧ s.1 0 12 = 0) ∨ (st < n ∧ isL (B st) ∧ s.1 0 12 = 2) ∨ (st < n ∧ isD (B st) ∧ ((en - st ≤ 4 ∧ s.1 0 12 = 3 ∧ (s.1 0 15).toInt = (dv B st (en - st) : Int)) ∨ (4 < en - st ∧ s.1 0 12 = 1))) ∨ (st < n ∧ ¬ isL (B st) ∧ ¬ isD (B st) ∧ ((isS (B st) ∧ s.1 0 12 = 4 ∧ s.1 0 15 = B st) ∨ (¬ isS (B st) ∧ s.1 0 12 = 1)))
def KM0 (s0 s : Sg) : Prop := s.1 7 = s0.1 7 ∧ s.1 0 11 = s0.1 0 11
theorem km0_b {s0 s : Sg} (h : KM0 s0 s) : byM s = byM s0 := by
  unfold byM
  rw [h.1]
theorem km0_t {n : Nat} {s0 s : Sg} (h : KM0 s0 s) (g : TkM n s0) : TkM n s := ⟨by rw [h.2]; exact g.1, g.2⟩
theorem km0_i {s0 s : Sg} (h : KM0 s0 s) (k : Nat) (hk : Nat.beq 11 k = false) (v : Int32) : KM0 s0 (pI s 0 k v) := ⟨by rw [p_ne1 rfl]; exact h.1, by rw [q_ne (by rw [hk]; rfl)]; exact h.2⟩
theorem a81_m (s0 : Sg) (n st : Nat) (hm : TkM n s0) (hst : st < n) (hL : isL (byM s0 st)) (m : Nat) : ∀ (i : Nat) (s : Sg), KM0 s0 s → (s.1 0 13).toInt = (st : Int) → (s.1 0 14).toInt = (i : Int) → st ≤ i → i ≤ n → (∀ j, st ≤ j → j < i → isL (byM s0 j)) → PQ (f_X12_ahead_b81 m s) (fun _ s9 => ∃ en : Nat, TokE (byM s0) n st en ∧ KM0 s0 s9 ∧ (s9.1 0 13).toInt = (st : Int) ∧ (s9.1 0 14).toInt = (en : Int) ∧ KindM (byM s0) n st en s9) := by
  induction m with
  | zero => intro i s _ _ _ _ _ _ r s9 e; cases e
  | succ m ih =>
    intro i s hk h13 h14 h1 h3 hl
    have e1 : (1 : Int32).toInt = 1 := rfl
    have cl := cl_nat (s.1 0 14)
    have d : (s.1 0 14).toNatClampNeg = i := by omega
    have hm1 := km0_t hk hm
    have h9 := hm.2
    unfold f_X12_ahead_b81
    refine pq_b (by_p _ n hm1 (by omega)) (fun r23 s24 g => pq_b (sml_p r23 s24) (fun r25 s26 g2 => ?_))
    obtain ⟨es, g⟩ := g
    obtain ⟨es2, g2⟩ := g2
    subst es2; subst es
    rw [d, km0_b hk] at g
    refine pq_if (fun c => pq_s ⟨i, Or.inr ⟨hst, Or.inl ⟨hL, ?_, h3, hl, ?_⟩⟩, km0_i hk 12 rfl 2, by rw [q_ne rfl]; exact h13, by rw [q_ne rfl]; exact h14, Or.inr (Or.inl ⟨hst, hL, q_eq⟩)⟩) (fun c => ?_)
    · by_cases q : i = st
      · exfalso
        subst q
        rcases g with w | w
        · omega
        · have z := r1_n g2 c
          rw [w.2] at z
          exact z hL
      · omega
    · rcases g with w | w
      · exact Or.inl (by omega)
      · have z := r1_n g2 c
        rw [w.2] at z
        exact Or.inr z
    · have z := r1_y g2 c
      rcases g with w | w
      · rw [w.2] at z
        exact absurd z nlm1
      · rw [w.2] at z
        have a1 : ((s26.1 0 14) + 1).toInt = (s26.1 0 14).toInt + 1 := i_addx (s26.1 0 14) 1 (show -2147483648 ≤ (s26.1 0 14).toInt + 1 ∧ (s26.1 0 14).toInt + 1 ≤ 2147483647 from by omega)
        exact ih (i + 1) _ (km0_i hk 14 rfl _) (by rw [q_ne rfl]; exact h13) (by rw [q_eq, a1]; omega) (by omega) (by omega) (fun j j1 j2 => by
          by_cases q : j = i
          · rw [q]; exact z
          · exact hl j j1 (by omega))
theorem a128_m (s0 : Sg) (n st : Nat) (hm : TkM n s0) (hst : st < n) (hD : isD (byM s0 st)) (m : Nat) : ∀ (i : Nat) (s : Sg), KM0 s0 s → (s.1 0 13).toInt = (st : Int) → (s.1 0 14).toInt = (i : Int) → st ≤ i → i ≤ n → (∀ j, st ≤ j → j < i → isD (byM s0 j)) → ((i - st ≤ 4 ∧ (s.1 0 15).toInt = (dv (byM s0) st (i - st) : Int)) ∨ (4 < i - st ∧ 0 ≤ (s.1 0 15).toInt ∧ (s.1 0 15).toInt ≤ 100000)) → PQ (f_X12_ahead_b128 m s) (fun _ s9 => ∃ en : Nat, TokE (byM s0) n st en ∧ KM0 s0 s9 ∧ (s9.1 0 13).toInt = (st : Int) ∧ (s9.1 0 14).toInt = (en : Int) ∧ KindM (byM s0) n st en s9) := by
  induction m with
  | zero => intro i s _ _ _ _ _ _ _ r s9 e; cases e
  | succ m ih =>
    intro i s hk h13 h14 h1 h3 hl hv
    have e1 : (1 : Int32).toInt = 1 := rfl
    have e4 : (4 : Int32).toInt = 4 := rfl
    have e10 : (10 : Int32).toInt = 10 := rfl
    have e48 : (48 : Int32).toInt = 48 := rfl
    have e5 : (100000 : Int32).toInt = 100000 := rfl
    have cl := cl_nat (s.1 0 14)
    have d : (s.1 0 14).toNatClampNeg = i := by omega
    have hm1 := km0_t hk hm
    have h9 := hm.2
    have sb := i_sub (s.1 0 14) (s.1 0 13)
    unfold f_X12_ahead_b128
    refine pq_b (by_p _ n hm1 (by omega)) (fun r16 s17 g => pq_b (dgm_p r16 s17) (fun r18 s19 g2 => ?_))
    obtain ⟨es, g⟩ := g
    obtain ⟨es2, g2⟩ := g2
    subst es2; subst es
    rw [d, km0_b hk] at g
    have te : r18 = 0 → TokE (byM s0) n st i := by
      intro c
      refine Or.inr ⟨hst, Or.inr (Or.inl ⟨hD, ?_, h3, hl, ?_⟩)⟩
      · by_cases q : i = st
        · exfalso
          subst q
          rcases g with w | w
          · omega
          · have z := r1_n g2 c
            rw [w.2] at z
            exact z hD
        · omega
      · rcases g with w | w
        · exact Or.inl (by omega)
        · have z := r1_n g2 c
          rw [w.2] at z
          exact Or.inr z
    refine pq_if (fun c => pq_if (fun c4 => pq_s ⟨i, te c, km0_i hk 12 rfl 3, by rw [q_ne rfl]; exact h13, by rw [q_ne rfl]; exact h14, Or.inr (Or.inr (Or.inl ⟨hst, hD, Or.inl ⟨?_, q_eq, ?_⟩⟩))⟩) (fun c4 => pq_s ⟨i, te c, km0_i hk 12 rfl 1, by rw [q_ne rfl]; exact h13, by rw [q_ne rfl]; exact h14, Or.inr (Or.inr (Or.inl ⟨hst, hD, Or.inr ⟨?_, q_eq⟩⟩))⟩)) (fun c => ?_)
    · have := i_le c4
      omega
    · have := i_le c4
      rw [q_ne rfl]
      rcases hv with w | w
      · exact w.2
      · omega
    · have := i_nle c4
      omega
    · have z := r1_y g2 c
      rcases g with w | w
      · rw [w.2] at z
        exact absurd z ndm1
      · have zb := w.2
        rw [w.2] at z
        refine pq_b (by_p _ n hm1 (by omega)) (fun r20 s21 g20 => ?_)
        obtain ⟨es, g20⟩ := g20
        subst es
        rw [d, km0_b hk] at g20
        have r20e : r20 = byM s0 i := by
          rcases g20 with u | u
          · omega
          · exact u.2
        refine pq_n (fun s22 e22 => ?_)
        have a1 : ((s21.1 0 14) + 1).toInt = (s21.1 0 14).toInt + 1 := i_addx (s21.1 0 14) 1 (show -2147483648 ≤ (s21.1 0 14).toInt + 1 ∧ (s21.1 0 14).toInt + 1 ≤ 2147483647 from by omega)
        have z1 := z.1
        have z2 := z.2
        have vb : 0 ≤ (s21.1 0 15).toInt ∧ (s21.1 0 15).toInt ≤ 100000 := by
          rcases hv with u | u
          · have b1 := dv_b (B := byM s0) (st := st) (i - st) (fun j j1 j2 => hl j j1 (by omega))
            have b2 := pw10 u.1
            omega
          · exact u.2
        have x1 : (10 * (s21.1 0 15)).toInt = 10 * (s21.1 0 15).toInt := by
          have m1 := i_mul 10 (s21.1 0 15)
          rw [e10] at m1
          omega
        have x2 : ((10 * (s21.1 0 15)) + byM s0 i).toInt = 10 * (s21.1 0 15).toInt + (byM s0 i).toInt := by
          have m2 := i_add (10 * (s21.1 0 15)) (byM s0 i)
          rw [x1] at m2
          omega
        have v : (((10 * (s21.1 0 15)) + byM s0 i) - 48).toInt = 10 * (s21.1 0 15).toInt + (byM s0 i).toInt - 48 := by
          have m3 := i_sub ((10 * (s21.1 0 15)) + byM s0 i) 48
          rw [x2, e48] at m3
          omega
        have lt := ite_lt (((10 * (s21.1 0 15)) + byM s0 i) - 48) 100000 (((10 * (s21.1 0 15)) + byM s0 i) - 48) 100000
        refine ih (i + 1) _ (km0_i (by rw [e22]; exact km0_i hk 15 rfl _) 14 rfl _) (by rw [q_ne rfl, e22, q_ne rfl]; exact h13) (by rw [q_eq, e22, q_ne rfl, a1]; omega) (by omega) (by omega) (fun j j1 j2 => by
          by_cases q : j = i
          · rw [q]; exact z
          · exact hl j j1 (by omega)) ?_
        rw [q_ne rfl, e22, q_eq, r20e]
        by_cases q : i + 1 - st ≤ 4
        · refine Or.inl ⟨q, ?_⟩
          have u := hv.elim (fun u => u.2) (fun u => by omega)
          have b1 := dv_b (B := byM s0) (st := st) (i - st) (fun j j1 j2 => hl j j1 (by omega))
          have b2 := pw10 (k := i - st) (by omega)
          have k2 : i + 1 - st = (i - st) + 1 := by omega
          rw [k2]
          unfold dv
          have k3 : st + (i - st) = i := by omega
          rw [k3]
          omega
        · refine Or.inr ⟨by omega, ?_⟩
          omega
