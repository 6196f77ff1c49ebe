theorem byM_n1 (s : Sg) (k : Nat) : ¬ byM s k = -1 := fun e => by
  have := (by255 s k).1
  rw [e] at this
  exact absurd this (by decide)
theorem a0_m (s0 : Sg) (n p : Nat) (hm : TkM n s0) (m : Nat) : ∀ (i : Nat) (s : Sg), KM0 s0 s → (s.1 0 14).toInt = (i : Int) → p ≤ i → i ≤ n → (∀ j, p ≤ j → j < i → isB (byM s0 j)) → PQ (f_X12_ahead_b0 m s) (fun _ s9 => ∃ st en : Nat, TokS (byM s0) n p st ∧ TokE (byM s0) n st en ∧ KM0 s0 s9 ∧ (s9.1 0 13).toInt = (st : Int) ∧ (s9.1 0 14).toInt = (en : Int) ∧ KindM (byM s0) n st en s9) := by
  induction m with
  | zero => intro i s _ _ _ _ _ r s9 e; cases e
  | succ m ih =>
    intro i s hk h14 h1 h3 hb
    have e1 : (1 : Int32).toInt = 1 := rfl
    have cl := cl_nat (s.1 0 14)
    have d : (s.1 0 14).toNatClampNeg = i := by omega
    have hm1 := km0_t hk hm
    have h9 := hm.2
    have a1 : ((s.1 0 14) + 1).toInt = (s.1 0 14).toInt + 1 := i_addx (s.1 0 14) 1 (show -2147483648 ≤ (s.1 0 14).toInt + 1 ∧ (s.1 0 14).toInt + 1 ≤ 2147483647 from by omega)
    have nx : i < n → isB (byM s0 i) → PQ (f_X12_ahead_b0 m (pI s 0 14 ((s.1 0 14) + 1))) (fun _ s9 => ∃ st en : Nat, TokS (byM s0) n p st ∧ TokE (byM s0) n st en ∧ KM0 s0 s9 ∧ (s9.1 0 13).toInt = (st : Int) ∧ (s9.1 0 14).toInt = (en : Int) ∧ KindM (byM s0) n st en s9) := fun hi w => ih (i + 1) _ (km0_i hk 14 rfl _) (by rw [q_eq, a1]; omega) (by omega) (by omega) (fun j j1 j2 => by
      by_cases q : j = i
      · rw [q]; exact w
      · exact hb j j1 (by omega))
    unfold f_X12_ahead_b0
    refine pq_b (by_p _ n hm1 (by omega)) (fun r1 s2 g1 => ?_)
    obtain ⟨es, g1⟩ := g1
    subst es
    rw [d, km0_b hk] at g1
    have lt : ∀ {r : Int32}, (((n : Int) ≤ (s2.1 0 14).toInt ∧ r = -1) ∨ ((s2.1 0 14).toInt < (n : Int) ∧ r = byM s0 i)) → ¬ r = -1 → i < n ∧ r = byM s0 i := fun {r} w z => by
      rcases w with w | w
      · exact absurd w.2 z
      · exact ⟨by omega, w.2⟩
    refine pq_if (fun c => ?_) (fun c1 => pq_b (by_p _ n hm1 (by omega)) (fun r3 s4 g3 => ?_))
    · have w := lt g1 (fun e => by rw [e] at c; exact absurd c (by decide))
      exact nx w.1 (Or.inl (w.2.symm.trans c))
    obtain ⟨es, g3⟩ := g3
    subst es
    rw [d, km0_b hk] at g3
    refine pq_if (fun c => ?_) (fun c3 => ?_)
    · have w := lt g3 (fun e => by rw [e] at c; exact absurd c (by decide))
      exact nx w.1 (Or.inr (w.2.symm.trans c))
    have ts : TokS (byM s0) n p i := by
      refine ⟨h1, h3, hb, ?_⟩
      by_cases q : i = n
      · exact Or.inl q
      · right
        rintro (z | z)
        · rcases g1 with w | w
          · omega
          · exact c1 (w.2.trans z)
        · rcases g3 with w | w
          · omega
          · exact c3 (w.2.trans z)
    have k13 : KM0 s0 (pI s4 0 13 (s4.1 0 14)) := km0_i hk 13 rfl _
    have p14 : (pI s4 0 13 (s4.1 0 14)).1 0 14 = s4.1 0 14 := q_ne rfl
    have p13 : (pI s4 0 13 (s4.1 0 14)).1 0 13 = s4.1 0 14 := q_eq
    generalize pI s4 0 13 (s4.1 0 14) = t4 at k13 p14 p13 ⊢
    have hm4 := km0_t k13 hm
    rw [p14]
    refine pq_b (by_p _ n hm4 (by omega)) (fun r5 s6 g5 => ?_)
    obtain ⟨es, g5⟩ := g5
    subst es
    rw [d, km0_b k13] at g5
    refine pq_if (fun c5 => pq_s ⟨i, n, ts, Or.inl ⟨?_, rfl⟩, km0_i (km0_i k13 15 rfl _) 12 rfl _, by rw [q_ne rfl, q_ne rfl, p13]; exact h14, ?_, Or.inl ⟨?_, q_eq⟩⟩) (fun c5 => ?_)
    · rcases g5 with w | w
      · omega
      · exact absurd (w.2.symm.trans c5) (byM_n1 s0 i)
    · rw [q_ne rfl, q_ne rfl, p14]
      rcases g5 with w | w
      · omega
      · exact absurd (w.2.symm.trans c5) (byM_n1 s0 i)
    · rcases g5 with w | w
      · omega
      · exact absurd (w.2.symm.trans c5) (byM_n1 s0 i)
    have w5 := lt g5 c5
    have hin := w5.1
    have k15 : KM0 s0 (pI s6 0 15 r5) := km0_i k13 15 rfl _
    have v15 : (pI s6 0 15 r5).1 0 15 = r5 := q_eq
    have v14 : ((pI s6 0 15 r5).1 0 14).toInt = (i : Int) := by rw [q_ne rfl, p14]; exact h14
    have v13 : ((pI s6 0 15 r5).1 0 13).toInt = (i : Int) := by rw [q_ne rfl, p13]; exact h14
    generalize pI s6 0 15 r5 = t6 at k15 v15 v14 v13 ⊢
    rw [w5.2] at v15 ⊢
    refine pq_b (sml_p (byM s0 i) t6) (fun r7 s8 g7 => ?_)
    obtain ⟨es, g7⟩ := g7
    subst es
    refine pq_if (fun c7 => pq_b (dgm_p (byM s0 i) s8) (fun r9 s10 g9 => ?_)) (fun c7 => pq_w (a81_m s0 n i hm hin (r1_y g7 c7) BIG i s8 k15 v13 v14 (Nat.le_refl _) h3 (fun j j1 j2 => by omega)) (fun _ s9 ⟨en, z⟩ => ⟨i, en, ts, z⟩))
    have nl := r1_n g7 c7
    obtain ⟨es, g9⟩ := g9
    subst es
    refine pq_if (fun c9 => ?_) (fun c9 => pq_w (a128_m s0 n i hm hin (r1_y g9 c9) BIG i (pI s10 0 15 0) (km0_i k15 15 rfl _) (by rw [q_ne rfl]; exact v13) (by rw [q_ne rfl]; exact v14) (Nat.le_refl _) h3 (fun j j1 j2 => by omega) (Or.inl ⟨by omega, by rw [q_eq, Nat.sub_self]; rfl⟩)) (fun _ s9 ⟨en, z⟩ => ⟨i, en, ts, z⟩))
    have nd := r1_n g9 c9
    have b1 : ((s10.1 0 14) + 1).toInt = (s10.1 0 14).toInt + 1 := i_addx (s10.1 0 14) 1 (show -2147483648 ≤ (s10.1 0 14).toInt + 1 ∧ (s10.1 0 14).toInt + 1 ≤ 2147483647 from by omega)
    have fin : ∀ (t : Int32) (x : Sg), x = pI (pI s10 0 14 ((s10.1 0 14) + 1)) 0 12 t → ((isS (byM s0 i) ∧ t = 4) ∨ (¬ isS (byM s0 i) ∧ t = 1)) → ∃ st en : Nat, TokS (byM s0) n p st ∧ TokE (byM s0) n st en ∧ KM0 s0 x ∧ (x.1 0 13).toInt = (st : Int) ∧ (x.1 0 14).toInt = (en : Int) ∧ KindM (byM s0) n st en x := by
      intro t x e h
      subst e
      refine ⟨i, i + 1, ts, Or.inr ⟨hin, Or.inr (Or.inr ⟨nl, nd, rfl⟩)⟩, km0_i (km0_i k15 14 rfl _) 12 rfl _, by rw [q_ne rfl, q_ne rfl]; exact v13, by rw [q_ne rfl, q_eq, b1]; omega, Or.inr (Or.inr (Or.inr ⟨hin, nl, nd, ?_⟩))⟩
      rcases h with h | h
      · exact Or.inl ⟨h.1, by rw [q_eq]; exact h.2, by rw [q_ne rfl, q_ne rfl]; exact v15⟩
      · exact Or.inr ⟨h.1, by rw [q_eq]; exact h.2⟩
    refine pq_if (fun c => pq_n (fun x e => pq_s (fin 4 x e (Or.inl ⟨Or.inl c, rfl⟩)))) (fun d1 => pq_if (fun c => pq_n (fun x e => pq_s (fin 4 x e (Or.inl ⟨Or.inr (Or.inl c), rfl⟩)))) (fun d2 => pq_if (fun c => pq_n (fun x e => pq_s (fin 4 x e (Or.inl ⟨Or.inr (Or.inr (Or.inl c)), rfl⟩)))) (fun d3 => pq_if (fun c => pq_n (fun x e => pq_s (fin 4 x e (Or.inl ⟨Or.inr (Or.inr (Or.inr c)), rfl⟩)))) (fun d4 => pq_n (fun x e => pq_s (fin 1 x e (Or.inr ⟨?_, rfl⟩)))))))
    rintro (z | z | z | z)
    · exact d1 z
    · exact d2 z
    · exact d3 z
    · exact d4 z
theorem ahd_m (n p : Nat) {s : Sg} (hm : TkM n s) (h14 : (s.1 0 14).toInt = (p : Int)) (h3 : p ≤ n) : PQ (f_X12_ahead s) (fun _ s9 => KM0 s s9 ∧ ∃ st en : Nat, TokS (byM s) n p st ∧ TokE (byM s) n st en ∧ (s9.1 0 13).toInt = (st : Int) ∧ (s9.1 0 14).toInt = (en : Int) ∧ KindM (byM s) n st en s9) := by
  unfold f_X12_ahead
  exact pq_w (a0_m s n p hm BIG p s ⟨rfl, rfl⟩ h14 (Nat.le_refl _) h3 (fun j j1 j2 => by omega)) (fun _ s9 ⟨st, en, g1, g2, g3, g4⟩ => ⟨g3, st, en, g1, g2, g4⟩)
