/-! texts: the class's tokens -/
theorem il_p (a : Int32) (s : Sg) : PQ (f_X7_isLetter a s) (fun r s9 => s9 = s ∧ ((r = 1 ∧ isL a) ∨ (r = 0 ∧ ¬ isL a))) := by
  have e1 : (97 : Int32).toInt = 97 := rfl
  have e2 : (122 : Int32).toInt = 122 := rfl
  unfold f_X7_isLetter isL
  refine pq_if (fun c => pq_s ⟨rfl, Or.inr ⟨rfl, ?_⟩⟩) (fun c => pq_if (fun c2 => pq_s ⟨rfl, Or.inr ⟨rfl, ?_⟩⟩) (fun c2 => pq_s ⟨rfl, Or.inl ⟨rfl, ?_, ?_⟩⟩))
  · have := i_lt c
    omega
  · have := i_lt c2
    omega
  · have := i_nlt c
    omega
  · have := i_nlt c2
    omega
theorem id_p (a : Int32) (s : Sg) : PQ (f_X7_isDigit a s) (fun r s9 => s9 = s ∧ ((r = 1 ∧ isD a) ∨ (r = 0 ∧ ¬ isD a))) := by
  have e1 : (48 : Int32).toInt = 48 := rfl
  have e2 : (57 : Int32).toInt = 57 := rfl
  unfold f_X7_isDigit isD
  refine pq_if (fun c => pq_s ⟨rfl, Or.inr ⟨rfl, ?_⟩⟩) (fun c => pq_if (fun c2 => pq_s ⟨rfl, Or.inr ⟨rfl, ?_⟩⟩) (fun c2 => pq_s ⟨rfl, Or.inl ⟨rfl, ?_, ?_⟩⟩))
  · have := i_lt c
    omega
  · have := i_lt c2
    omega
  · have := i_nlt c
    omega
  · have := i_nlt c2
    omega
theorem r1_y {P : Prop} {r : Int32} (h : (r = 1 ∧ P) ∨ (r = 0 ∧ ¬ P)) (c : ¬ r = 0) : P := by
  rcases h with q | q
  · exact q.2
  · exact absurd q.1 c
theorem r1_n {P : Prop} {r : Int32} (h : (r = 1 ∧ P) ∨ (r = 0 ∧ ¬ P)) (c : r = 0) : ¬ P := by
  rcases h with q | q
  · exact absurd (q.1.symm.trans c) (by decide)
  · exact q.2
/-- the token's state: text, length, start, next -/
def TkA (B : Nat → Int32) (n : Nat) (s : Sg) : Prop := s.1 1 = B ∧ (s.1 7 1).toInt = (n : Int) ∧ n ≤ 900
theorem cw_b (B : Nat → Int32) (n st : Nat) (m : Nat) : ∀ (i : Nat) (s : Sg), TkA B n s → (s.1 7 4).toInt = (st : Int) → (s.1 7 2).toInt = (i : Int) → st ≤ i → i ≤ n → (∀ j, st ≤ j → j < i → isL (B j)) → s.2 7 6 = p27 B st (min (i - st) 8) → PQ (f_X7_cutWord_b5 m s) (fun _ s9 => ∃ en : Nat, i ≤ en ∧ en ≤ n ∧ (∀ j, st ≤ j → j < en → isL (B j)) ∧ (en = n ∨ ¬ isL (B en)) ∧ (s9.1 7 2).toInt = (en : Int) ∧ s9.2 7 6 = p27 B st (min (en - st) 8)) := by
  induction m with
  | zero => intro i s _ _ _ _ _ _ _ r s9 e; cases e
  | succ m ih =>
    intro i s ha h4 h2 h1 h3 hl hp
    obtain ⟨hB, hn, h9⟩ := ha
    have e1 : (1 : Int32).toInt = 1 := rfl
    have e8 : (8 : Int32).toInt = 8 := rfl
    have cl := cl_nat (s.1 7 2)
    have d : (s.1 7 2).toNatClampNeg = i := by omega
    unfold f_X7_cutWord_b5
    refine pq_if (fun c => pq_s ⟨i, Nat.le_refl _, h3, hl, Or.inl ?_, h2, hp⟩) (fun c => pq_c (fun _ => pq_b (il_p _ s) (fun r2 s3 g => ?_)))
    · have := i_le c
      omega
    · have c := i_nle c
      obtain ⟨es, g⟩ := g
      subst es
      rw [hB, d] at g
      have a1 : ((s3.1 7 2) + 1).toInt = (s3.1 7 2).toInt + 1 := i_addx (s3.1 7 2) 1 (show -2147483648 ≤ (s3.1 7 2).toInt + 1 ∧ (s3.1 7 2).toInt + 1 ≤ 2147483647 from by omega)
      refine pq_if (fun c2 => pq_s ⟨i, Nat.le_refl _, h3, hl, Or.inr (r1_n g c2), h2, hp⟩) (fun c2 => ?_)
      have hi : isL (B i) := r1_y g c2
      have hl' : ∀ j, st ≤ j → j < i + 1 → isL (B j) := fun j j1 j2 => by
        by_cases q : j = i
        · rw [q]; exact hi
        · exact hl j j1 (by omega)
      have sb := i_sub (s3.1 7 2) (s3.1 7 4)
      refine pq_if (fun c8 => ?_) (fun c8 => pq_c (fun _ => pq_n (fun s5 e5 => ?_)))
      · have c8 := i_le c8
        refine pq_w (ih (i + 1) _ ⟨by rw [p_ne1 rfl]; exact hB, by rw [q_ne rfl]; exact hn, h9⟩ (by rw [q_ne rfl]; exact h4) (by rw [q_eq, a1]; omega) (by omega) (by omega) hl' ?_) (fun _ s9 w => ?_)
        · show s3.2 7 6 = _
          rw [hp]
          congr 1
          omega
        · obtain ⟨en, w1, w2⟩ := w
          exact ⟨en, by omega, w2⟩
      · have c8 := i_nle c8
        refine pq_w (ih (i + 1) _ ⟨by rw [p_ne1 rfl, e5]; exact hB, by rw [q_ne rfl, e5]; exact hn, h9⟩ (by rw [q_ne rfl, e5]; exact h4) (by rw [q_eq, e5]; show ((s3.1 7 2) + 1).toInt = _; rw [a1]; omega) (by omega) (by omega) hl' ?_) (fun _ s9 w => ?_)
        · show s5.2 7 6 = _
          rw [e5, pL_2, if_pos ⟨rfl, rfl⟩, hp, hB, d]
          have k1 : min (i - st) 8 = i - st := by omega
          have k2 : min (i + 1 - st) 8 = (i - st) + 1 := by omega
          rw [k1, k2]
          show _ = ((p27 B st (i - st) * 27 + (B (st + (i - st))).toInt64) - 97) + 1
          have k3 : st + (i - st) = i := by omega
          rw [k3]
        · obtain ⟨en, w1, w2⟩ := w
          exact ⟨en, by omega, w2⟩
theorem cw_p (B : Nat → Int32) (n st : Nat) {s : Sg} (ha : TkA B n s) (h4 : (s.1 7 4).toInt = (st : Int)) (h2 : (s.1 7 2).toInt = (st : Int)) (h3 : st < n) (hl : isL (B st)) : PQ (f_X7_cutWord s) (fun _ s9 => ∃ en : Nat, RunE isL B n st en ∧ (s9.1 7 2).toInt = (en : Int) ∧ s9.2 7 6 = p27 B st (min (en - st) 8)) := by
  unfold f_X7_cutWord
  refine pq_w (cw_b B n st BIG st (pL s 7 6 0) ha h4 h2 (Nat.le_refl _) (Nat.le_of_lt h3) (fun j j1 j2 => by omega) ?_) (fun _ s9 w => ?_)
  · rw [pL_2, if_pos ⟨rfl, rfl⟩, Nat.sub_self]
    rfl
  · obtain ⟨en, w1, w2, w3, w4, w5⟩ := w
    refine ⟨en, ⟨?_, w2, w3, w4⟩, w5⟩
    rcases w4 with q | q
    · omega
    · by_cases e : en = st
      · subst e; exact absurd hl q
      · omega
/-- the number that stands there, by its first digits -/
def dv (B : Nat → Int32) (st : Nat) : Nat → Nat
  | 0 => 0
  | k + 1 => dv B st k * 10 + ((B (st + k)).toInt.toNat - 48)
def Digs (B : Nat → Int32) (st k : Nat) : Prop := ∀ i, st ≤ i → i < st + k → isD (B i)
theorem dv_b {B : Nat → Int32} {st : Nat} : ∀ k, Digs B st k → dv B st k < 10 ^ k
  | 0, _ => Nat.zero_lt_one
  | k + 1, h => by
    have g := dv_b k (fun i h1 h2 => h i h1 (by omega))
    have q := h (st + k) (by omega) (by omega)
    have a := q.1
    have b := q.2
    unfold dv
    rw [Nat.pow_succ]
    omega
theorem pw10 {k : Nat} (h : k ≤ 4) : 10 ^ k ≤ 10000 := by
  have : k = 0 ∨ k = 1 ∨ k = 2 ∨ k = 3 ∨ k = 4 := by omega
  rcases this with e | e | e | e | e <;> subst e <;> decide
theorem cn_b (B : Nat → Int32) (n st : Nat) (m : Nat) : ∀ (i : Nat) (s : Sg), TkA B n s → (s.1 7 4).toInt = (st : Int) → (s.1 7 2).toInt = (i : Int) → st ≤ i → i ≤ n → (∀ j, st ≤ j → j < i → isD (B j)) → (s.1 7 5).toInt = (dv B st (min (i - st) 4) : Int) → PQ (f_X7_cutNumber_b5 m s) (fun _ s9 => ∃ en : Nat, i ≤ en ∧ en ≤ n ∧ (∀ j, st ≤ j → j < en → isD (B j)) ∧ (en = n ∨ ¬ isD (B en)) ∧ (s9.1 7 2).toInt = (en : Int) ∧ ((en - st ≤ 4 ∧ s9.1 7 3 = 3 ∧ (s9.1 7 5).toInt = (dv B st (en - st) : Int)) ∨ (4 < en - st ∧ s9.1 7 3 = 4))) := by
  induction m with
  | zero => intro i s _ _ _ _ _ _ _ r s9 e; cases e
  | succ m ih =>
    intro i s ha h4 h2 h1 h3 hl hp
    obtain ⟨hB, hn, h9⟩ := ha
    have e1 : (1 : Int32).toInt = 1 := rfl
    have e4 : (4 : Int32).toInt = 4 := rfl
    have cl := cl_nat (s.1 7 2)
    have d : (s.1 7 2).toNatClampNeg = i := by omega
    have sb := i_sub (s.1 7 2) (s.1 7 4)
    have fin : (i = n ∨ ¬ isD (B i)) → PQ (f_X7_cutNumber_b81 s) (fun _ s9 => ∃ en : Nat, i ≤ en ∧ en ≤ n ∧ (∀ j, st ≤ j → j < en → isD (B j)) ∧ (en = n ∨ ¬ isD (B en)) ∧ (s9.1 7 2).toInt = (en : Int) ∧ ((en - st ≤ 4 ∧ s9.1 7 3 = 3 ∧ (s9.1 7 5).toInt = (dv B st (en - st) : Int)) ∨ (4 < en - st ∧ s9.1 7 3 = 4))) := by
      intro w
      unfold f_X7_cutNumber_b81
      refine pq_if (fun c => pq_s ⟨i, Nat.le_refl _, h3, hl, w, by rw [q_ne rfl]; exact h2, Or.inl ⟨?_, q_eq, ?_⟩⟩) (fun c => pq_s ⟨i, Nat.le_refl _, h3, hl, w, by rw [q_ne rfl]; exact h2, Or.inr ⟨?_, q_eq⟩⟩)
      · have := i_le c
        omega
      · have := i_le c
        rw [q_ne rfl, hp]
        have k : min (i - st) 4 = i - st := by omega
        rw [k]
      · have := i_nle c
        omega
    unfold f_X7_cutNumber_b5
    refine pq_if (fun c => fin (Or.inl ?_)) (fun c => pq_c (fun _ => pq_b (id_p _ s) (fun r2 s3 g => ?_)))
    · have := i_le c
      omega
    · have c := i_nle c
      obtain ⟨es, g⟩ := g
      subst es
      rw [hB, d] at g
      have a1 : ((s3.1 7 2) + 1).toInt = (s3.1 7 2).toInt + 1 := i_addx (s3.1 7 2) 1 (show -2147483648 ≤ (s3.1 7 2).toInt + 1 ∧ (s3.1 7 2).toInt + 1 ≤ 2147483647 from by omega)
      refine pq_if (fun c2 => fin (Or.inr (r1_n g c2))) (fun c2 => ?_)
      have hi : isD (B i) := r1_y g c2
      have hl' : ∀ j, st ≤ j → j < i + 1 → isD (B j) := fun j j1 j2 => by
        by_cases q : j = i
        · rw [q]; exact hi
        · exact hl j j1 (by omega)
      refine pq_if (fun c8 => ?_) (fun c8 => pq_c (fun _ => pq_n (fun s5 e5 => ?_)))
      · have c8 := i_le c8
        refine pq_w (ih (i + 1) _ ⟨by rw [p_ne1 rfl]; exact hB, by rw [q_ne rfl]; exact hn, h9⟩ (by rw [q_ne rfl]; exact h4) (by rw [q_eq, a1]; omega) (by omega) (by omega) hl' ?_) (fun _ s9 w => ?_)
        · rw [q_ne rfl, hp]
          have k1 : min (i - st) 4 = 4 := by omega
          have k2 : min (i + 1 - st) 4 = 4 := by omega
          rw [k1, k2]
        · obtain ⟨en, w1, w2⟩ := w
          exact ⟨en, by omega, w2⟩
      · have c8 := i_nle c8
        have k1 : min (i - st) 4 = i - st := by omega
        have k2 : min (i + 1 - st) 4 = (i - st) + 1 := by omega
        have k3 : st + (i - st) = i := by omega
        rw [k1] at hp
        have bd := dv_b (B := B) (st := st) (i - st) (fun j j1 j2 => hl j j1 (by omega))
        have b10 := pw10 (k := i - st) (by omega)
        have hi1 := hi.1
        have hi2 := hi.2
        have e10 : (10 : Int32).toInt = 10 := rfl
        have e48 : (48 : Int32).toInt = 48 := rfl
        have x1 : ((s3.1 7 5) * 10).toInt = (dv B st (i - st) : Int) * 10 := by
          have m1 := i_mul (s3.1 7 5) 10
          rw [hp, e10] at m1
          omega
        have x2 : (((s3.1 7 5) * 10) + (B i)).toInt = (dv B st (i - st) : Int) * 10 + (B i).toInt := by
          have m2 := i_add ((s3.1 7 5) * 10) (B i)
          rw [x1] at m2
          omega
        have x3 : ((((s3.1 7 5) * 10) + (B i)) - 48).toInt = (dv B st (i - st) : Int) * 10 + (B i).toInt - 48 := by
          have m3 := i_sub (((s3.1 7 5) * 10) + (B i)) 48
          rw [x2, e48] at m3
          omega
        refine pq_w (ih (i + 1) _ ⟨by rw [p_ne1 rfl, e5, p_ne1 rfl]; exact hB, by rw [q_ne rfl, e5, q_ne rfl]; exact hn, h9⟩ (by rw [q_ne rfl, e5, q_ne rfl]; exact h4) (by rw [q_eq, e5, q_ne rfl, a1]; omega) (by omega) (by omega) hl' ?_) (fun _ s9 w => ?_)
        · rw [q_ne rfl, e5, q_eq, hB, d, k2]
          unfold dv
          rw [k3]
          omega
        · obtain ⟨en, w1, w2⟩ := w
          exact ⟨en, by omega, w2⟩
theorem cn_p (B : Nat → Int32) (n st : Nat) {s : Sg} (ha : TkA B n s) (h4 : (s.1 7 4).toInt = (st : Int)) (h2 : (s.1 7 2).toInt = (st : Int)) (h3 : st < n) (hl : isD (B st)) : PQ (f_X7_cutNumber s) (fun _ s9 => ∃ en : Nat, RunE isD B n st en ∧ (s9.1 7 2).toInt = (en : Int) ∧ ((en - st ≤ 4 ∧ s9.1 7 3 = 3 ∧ (s9.1 7 5).toInt = (dv B st (en - st) : Int)) ∨ (4 < en - st ∧ s9.1 7 3 = 4))) := by
  unfold f_X7_cutNumber
  refine pq_w (cn_b B n st BIG st (pI s 7 5 0) ⟨by rw [p_ne1 rfl]; exact ha.1, by rw [q_ne rfl]; exact ha.2.1, ha.2.2⟩ (by rw [q_ne rfl]; exact h4) (by rw [q_ne rfl]; exact h2) (Nat.le_refl _) (Nat.le_of_lt h3) (fun j j1 j2 => by omega) ?_) (fun _ s9 w => ?_)
  · rw [q_eq, Nat.sub_self]
    rfl
  · obtain ⟨en, w1, w2, w3, w4, w5⟩ := w
    refine ⟨en, ⟨?_, w2, w3, w4⟩, w5⟩
    rcases w4 with q | q
    · omega
    · by_cases e : en = st
      · subst e; exact absurd hl q
      · omega
def isS (c : Int32) : Prop := c = 59 ∨ c = 60 ∨ c = 62 ∨ c = 61
theorem cs_p (B : Nat → Int32) (n st : Nat) {s : Sg} (ha : TkA B n s) (h2 : (s.1 7 2).toInt = (st : Int)) (h3 : st < n) : PQ (f_X7_cutSign s) (fun _ s9 => (s9.1 7 2).toInt = (st : Int) + 1 ∧ ((isS (B st) ∧ s9.1 7 3 = B st) ∨ (¬ isS (B st) ∧ s9.1 7 3 = 4))) := by
  obtain ⟨hB, hn, h9⟩ := ha
  have e1 : (1 : Int32).toInt = 1 := rfl
  have cl := cl_nat (s.1 7 2)
  have d : (s.1 7 2).toNatClampNeg = st := by omega
  have a1 : ((s.1 7 2) + 1).toInt = (s.1 7 2).toInt + 1 := i_addx (s.1 7 2) 1 (show -2147483648 ≤ (s.1 7 2).toInt + 1 ∧ (s.1 7 2).toInt + 1 ≤ 2147483647 from by omega)
  have fin : isS (B st) → PQ (f_X7_cutSign_b35 (B st) s) (fun _ s9 => (s9.1 7 2).toInt = (st : Int) + 1 ∧ ((isS (B st) ∧ s9.1 7 3 = B st) ∨ (¬ isS (B st) ∧ s9.1 7 3 = 4))) := by
    intro w
    unfold f_X7_cutSign_b35
    refine pq_n (fun s3 e3 => pq_s ⟨?_, Or.inl ⟨w, ?_⟩⟩)
    · rw [e3, q_eq, q_ne rfl, a1]; omega
    · rw [e3, q_ne rfl, q_eq]
  unfold f_X7_cutSign
  refine pq_c (fun _ => pq_n (fun x2 e2 => ?_))
  rw [hB, d] at e2
  subst e2
  refine pq_if (fun c => fin (Or.inl c)) (fun c1 => pq_if (fun c => fin (Or.inr (Or.inl c))) (fun c2 => pq_if (fun c => fin (Or.inr (Or.inr (Or.inl c)))) (fun c3 => pq_if (fun c => fin (Or.inr (Or.inr (Or.inr c)))) (fun c4 => pq_n (fun s4 e4 => pq_s ⟨?_, Or.inr ⟨?_, ?_⟩⟩)))))
  · rw [e4, q_eq, q_ne rfl, a1]; omega
  · rintro (w | w | w | w)
    · exact c1 w
    · exact c2 w
    · exact c3 w
    · exact c4 w
  · rw [e4, q_ne rfl, q_eq]
