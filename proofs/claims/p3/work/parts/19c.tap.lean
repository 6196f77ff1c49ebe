/-! the little relation: the tape's count, the marks' count, the trays -/
theorem oq_and2 {α : Type} {o : Option (α × Sg)} {P Q : α → Sg → Prop} (h : OQ o P) (g : PQ o Q) : OQ o (fun r s => P r s ∧ Q r s) := oq_p h g
theorem ct_p (s : Sg) : PQ (f_X11_closeText s) (fun _ s9 => s9.1 0 13 = 0) := by
  unfold f_X11_closeText
  refine pq_n (fun s1 e1 => pq_s ?_)
  rw [q_ne rfl, e1, q_ne rfl, q_eq]
def OkN (a : Int32) (lim : Int) (n : Int32) : Prop := 0 ≤ a.toInt ∧ a.toInt ≤ n.toInt ∧ a.toInt ≤ lim
def Tp (c : Prop) (x x9 : Int32) : Prop := (c ∧ x9 = 0) ∨ (¬ c ∧ x9 = x)
theorem tp_eq {c : Prop} {x x9 y y9 : Int32} (h : Tp c x x9) (g : Tp c y y9) (e : x = y) : x9 = y9 := by
  rcases h with h | h <;> rcases g with g | g
  · exact h.2.trans g.2.symm
  · exact absurd h.1 g.1
  · exact absurd g.1 h.1
  · exact h.2.trans (e.trans g.2.symm)
theorem street_t (a1 : Int32) {s : Sg} (hn : (s.1 0 13).toInt ≤ 900) : PQ (f_X11_street a1 s) (fun _ s9 => Tp (OkN a1 900 (s.1 0 13)) (s.1 0 13) (s9.1 0 13)) := by
  unfold f_X11_street
  refine pq_b (wi_p a1 0 (s.1 0 13) s) (fun r1 s2 g => ?_)
  obtain ⟨e2, g⟩ := g
  subst e2
  have e0 : (0 : Int32).toInt = 0 := rfl
  refine pq_if (fun c => pq_b (ft_X11_refuse 1 s2) (fun _ s4 g4 => pq_s (Or.inr ⟨fun w => ?_, fr_e g4 0 13 173 rfl rfl⟩))) (fun c => ?_)
  · rcases g with q | q
    · exact absurd (q.1.symm.trans c) (by decide)
    · exact q.2 ⟨by rw [e0]; exact w.1, w.2.1⟩
  · have ok : OkN a1 900 (s2.1 0 13) := by
      rcases g with q | q
      · have := q.2.1
        exact ⟨by omega, q.2.2, by have := q.2.2; omega⟩
      · exact absurd q.1 c
    refine pq_b (ft_X7_begin _ _) (fun _ s6 _ => pq_b (ft_X6_takeText s6) (fun r7 s8 _ => pq_b (ct_p s8) (fun _ s10 g10 => ?_)))
    refine pq_if (fun _ => pq_b (ft_X11_refuse 9 s10) (fun _ s12 g12 => pq_s (Or.inl ⟨ok, (fr_e g12 0 13 173 rfl rfl).trans g10⟩))) (fun _ => ?_)
    exact pq_b (ft_X10_copyFrom_51 s10) (fun _ s14 g14 => pq_b (ft_X11_answer _ _) (fun _ s16 g16 => pq_s (Or.inl ⟨ok, (fr_e g16 0 13 173 rfl rfl).trans ((fr_e g14 0 13 173 rfl rfl).trans g10)⟩)))
theorem days_t (a1 : Int32) {s : Sg} : PQ (f_X11_days a1 s) (fun _ s9 => Tp (OkN a1 300 (s.1 0 13)) (s.1 0 13) (s9.1 0 13)) := by
  unfold f_X11_days
  refine pq_b (wi_p a1 0 (s.1 0 13) s) (fun r1 s2 g => ?_)
  obtain ⟨e2, g⟩ := g
  subst e2
  have e0 : (0 : Int32).toInt = 0 := rfl
  have e300 : (300 : Int32).toInt = 300 := rfl
  refine pq_if (fun c => pq_b (ft_X11_refuse 1 s2) (fun _ s4 g4 => pq_s (Or.inr ⟨fun w => ?_, fr_e g4 0 13 173 rfl rfl⟩))) (fun c => pq_if (fun c3 => ?_) (fun c3 => pq_b (ft_X11_refuse 1 s2) (fun _ s4 g4 => pq_s (Or.inr ⟨fun w => ?_, fr_e g4 0 13 173 rfl rfl⟩))))
  · rcases g with q | q
    · exact absurd (q.1.symm.trans c) (by decide)
    · exact q.2 ⟨by rw [e0]; exact w.1, w.2.1⟩
  · have c3 := i_le c3
    have ok : OkN a1 300 (s2.1 0 13) := by
      rcases g with q | q
      · have := q.2.1
        exact ⟨by omega, q.2.2, by omega⟩
      · exact absurd q.1 c
    refine pq_b (ft_X7_begin _ _) (fun _ s6 _ => pq_b (ft_X1_takeText s6) (fun r7 s8 _ => pq_b (ct_p s8) (fun _ s10 g10 => ?_)))
    refine pq_if (fun _ => pq_b (ft_X11_refuse 9 s10) (fun _ s12 g12 => pq_s (Or.inl ⟨ok, (fr_e g12 0 13 173 rfl rfl).trans g10⟩))) (fun _ => ?_)
    exact pq_b (ft_X5_copyFrom_54 s10) (fun _ s14 g14 => pq_b (ft_X11_answer _ _) (fun _ s16 g16 => pq_s (Or.inl ⟨ok, (fr_e g16 0 13 173 rfl rfl).trans ((fr_e g14 0 13 173 rfl rfl).trans g10)⟩)))
  · have c3 := i_nle c3
    have := w.2.2
    omega
theorem bg_26 (v1 : Int32) (n : Nat) : ∀ (v3 : Int32) (s : Sg), PQ (f_X12_begins_b26 n v1 v3 s) (fun r s9 => r = 1 ∧ s9.1 0 10 = 0) := by
  induction n with
  | zero => intro v3 s r s9 e; cases e
  | succ n ih =>
    intro v3 s
    unfold f_X12_begins_b26
    refine pq_if (fun _ => pq_n (fun s1 e1 => pq_b (ft_X12_ahead _) (fun _ s3 g3 => pq_s ⟨rfl, ?_⟩))) (fun _ => pq_c (fun _ => pq_n (fun x _ => ih _ x)))
    rw [fr_e g3 0 10 30 rfl rfl, q_ne rfl, q_ne rfl, e1, q_ne rfl, q_ne rfl, q_eq]
theorem begins_t (a1 a2 : Int32) (s : Sg) : PQ (f_X12_begins a1 a2 s) (fun r s9 => (r = 1 ∧ OkN a1 a2.toInt (s.1 0 10) ∧ s9.1 0 10 = 0) ∨ (r = 0 ∧ ¬ OkN a1 a2.toInt (s.1 0 10) ∧ s9 = s)) := by
  have e0 : (0 : Int32).toInt = 0 := rfl
  unfold f_X12_begins
  refine pq_if (fun c => pq_s (Or.inr ⟨rfl, fun w => ?_, rfl⟩)) (fun c => pq_if (fun c2 => pq_s (Or.inr ⟨rfl, fun w => ?_, rfl⟩)) (fun c2 => pq_if (fun c3 => ?_) (fun c3 => pq_s (Or.inr ⟨rfl, fun w => ?_, rfl⟩))))
  · have := i_lt c
    have := w.1
    omega
  · have := i_lt c2
    have := w.2.1
    omega
  · have h1 := i_nlt c
    exact pq_w (bg_26 a1 BIG 0 _) (fun r s9 g => Or.inl ⟨g.1, ⟨by omega, i_nlt c2, i_le c3⟩, g.2⟩)
  · have := i_nle c3
    have := w.2.2
    omega
theorem tkn_t (a : Int32) (s : Sg) : PQ (f_X12_taken a s) (fun _ s9 => s9.1 0 10 = s.1 0 10) := pq_w (ft_X12_taken a s) (fun _ _ g => fr_e g 0 10 30 rfl rfl)
theorem street_tm (a1 : Int32) (s : Sg) : PQ (f_X12_street a1 s) (fun _ s9 => Tp (OkN a1 900 (s.1 0 10)) (s.1 0 10) (s9.1 0 10)) := by
  unfold f_X12_street
  refine pq_b (begins_t a1 900 s) (fun r1 s2 g => pq_if (fun c => ?_) (fun c => ?_))
  · rcases g with q | q
    · exact absurd (q.1.symm.trans c) (by decide)
    · obtain ⟨-, q, e⟩ := q
      subst e
      exact pq_b (ft_X12_refuse 1 s2) (fun _ s4 g4 => pq_s (Or.inr ⟨q, fr_e g4 0 10 30 rfl rfl⟩))
  · rcases g with q | q
    · refine pq_b (ft_X12_plain 1920 s2) (fun _ s6 g6 => pq_w (ft_X12_street_b31 (s0 := pI s6 0 20 0) BIG 1 (pI s6 0 20 0) fr_r) (fun _ s9 g9 => Or.inl ⟨q.2.1, ?_⟩))
      rw [fr_e g9 0 10 30 rfl rfl, q_ne rfl, fr_e g6 0 10 30 rfl rfl]
      exact q.2.2
    · exact absurd q.1 c
theorem days_tm (a1 : Int32) (s : Sg) : PQ (f_X12_days a1 s) (fun _ s9 => Tp (OkN a1 300 (s.1 0 10)) (s.1 0 10) (s9.1 0 10)) := by
  unfold f_X12_days
  refine pq_b (begins_t a1 300 s) (fun r1 s2 g => pq_if (fun c => ?_) (fun c => ?_))
  · rcases g with q | q
    · exact absurd (q.1.symm.trans c) (by decide)
    · obtain ⟨-, q, e⟩ := q
      subst e
      exact pq_b (ft_X12_refuse 1 s2) (fun _ s4 g4 => pq_s (Or.inr ⟨q, fr_e g4 0 10 30 rfl rfl⟩))
  · rcases g with q | q
    · refine pq_n (fun s5 e5 => pq_w (ft_X12_days_b38 (s0 := s5) BIG 1 s5 fr_r) (fun _ s9 g9 => Or.inl ⟨q.2.1, ?_⟩))
      rw [fr_e g9 0 10 30 rfl rfl, e5, q_ne rfl, q_ne rfl, q_nc rfl]
      exact q.2.2
    · exact absurd q.1 c
/-! feed -/
theorem po_b (v1 : Int32) (n : Nat) : ∀ (r : Nat) (v2 : Int32) (s : Sg), v2.toInt = 8 * (r : Int) - 8 → r ≤ 4 → 0 ≤ (s.1 0 13).toInt → (s.1 0 13).toInt + r ≤ 900 → PQ (f_X11_putOnTape_b3 n v1 v2 s) (fun _ s9 => (s9.1 0 13).toInt = (s.1 0 13).toInt + r) := by
  induction n with
  | zero => intro r v2 s _ _ _ _ x s9 e; cases e
  | succ n ih =>
    intro r v2 s h1 h2 h3 h4
    have e0 : (0 : Int32).toInt = 0 := rfl
    have e8 : (-8 : Int32).toInt = -8 := rfl
    have e1 : (1 : Int32).toInt = 1 := rfl
    have e900 : (900 : Int32).toInt = 900 := rfl
    unfold f_X11_putOnTape_b3
    refine pq_if (fun c => pq_s ?_) (fun c => pq_if (fun c2 => ?_) (fun c2 => pq_c (fun _ => pq_n (fun s2 e2 => ?_))))
    · have := i_lt c
      omega
    · have := i_nlt c
      have := i_le c2
      omega
    · have c := i_nlt c
      have k2 : s2.1 0 13 = s.1 0 13 := by rw [e2, q_nc rfl]
      have a2 : (v2 + (-8)).toInt = v2.toInt + -8 := i_addx v2 (-8) (show -2147483648 ≤ v2.toInt + -8 ∧ v2.toInt + -8 ≤ 2147483647 from by omega)
      have a1 : ((s.1 0 13) + 1).toInt = (s.1 0 13).toInt + 1 := i_addx (s.1 0 13) 1 (show -2147483648 ≤ (s.1 0 13).toInt + 1 ∧ (s.1 0 13).toInt + 1 ≤ 2147483647 from by omega)
      refine pq_w (ih (r - 1) (v2 + (-8)) _ (by omega) (by omega) (by rw [q_eq, k2]; omega) (by rw [q_eq, k2]; omega)) (fun _ s9 g => ?_)
      rw [q_eq, k2] at g
      omega
theorem po_p (a : Int32) (s : Sg) (h : 0 ≤ (s.1 0 13).toInt) (h4 : (s.1 0 13).toInt + 4 ≤ 900) : PQ (f_X11_putOnTape a s) (fun _ s9 => (s9.1 0 13).toInt = (s.1 0 13).toInt + 4) := by
  unfold f_X11_putOnTape
  exact po_b a BIG 4 24 s (by decide) (by decide) h (by omega)
theorem fu_b (v1 : Int32) (n : Nat) : ∀ (r : Nat) (v2 : Int32) (s : Sg), v2.toInt = 8 * (r : Int) - 8 → r ≤ 4 → 0 ≤ (s.1 0 10).toInt → (s.1 0 10).toInt + r ≤ 900 → PQ (f_X12_four_b3 n v1 v2 s) (fun _ s9 => (s9.1 0 10).toInt = (s.1 0 10).toInt + r) := by
  induction n with
  | zero => intro r v2 s _ _ _ _ x s9 e; cases e
  | succ n ih =>
    intro r v2 s h1 h2 h3 h4
    have e0 : (0 : Int32).toInt = 0 := rfl
    have e8 : (-8 : Int32).toInt = -8 := rfl
    have e1 : (1 : Int32).toInt = 1 := rfl
    unfold f_X12_four_b3
    refine pq_if (fun c => pq_s ?_) (fun c => pq_c (fun _ => pq_n (fun s2 e2 => ?_)))
    · have := i_lt c
      omega
    · have c := i_nlt c
      have k2 : s2.1 0 10 = s.1 0 10 := by rw [e2, q_nc rfl]
      have a2 : (v2 + (-8)).toInt = v2.toInt + -8 := i_addx v2 (-8) (show -2147483648 ≤ v2.toInt + -8 ∧ v2.toInt + -8 ≤ 2147483647 from by omega)
      have a1 : ((s.1 0 10) + 1).toInt = (s.1 0 10).toInt + 1 := i_addx (s.1 0 10) 1 (show -2147483648 ≤ (s.1 0 10).toInt + 1 ∧ (s.1 0 10).toInt + 1 ≤ 2147483647 from by omega)
      refine pq_w (ih (r - 1) (v2 + (-8)) _ (by omega) (by omega) (by rw [q_eq, k2]; omega) (by rw [q_eq, k2]; omega)) (fun _ s9 g => ?_)
      rw [q_eq, k2] at g
      omega
theorem fu_p (a : Int32) (s : Sg) (h : 0 ≤ (s.1 0 10).toInt) (h4 : (s.1 0 10).toInt + 4 ≤ 900) : PQ (f_X12_four a s) (fun _ s9 => (s9.1 0 10).toInt = (s.1 0 10).toInt + 4) := by
  unfold f_X12_four
  exact fu_b a BIG 4 24 s (by decide) (by decide) h (by omega)
def FdR (x r x9 : Int32) : Prop := (x.toInt + 20 ≤ 900 ∧ r.toInt = x.toInt + 20 ∧ x9.toInt = x.toInt + 20) ∨ (¬ x.toInt + 20 ≤ 900 ∧ r = -1 ∧ x9 = x)
theorem fd_eq {x r x9 y t y9 : Int32} (h : FdR x r x9) (g : FdR y t y9) (e : x = y) : x9 = y9 ∧ r = t := by
  subst e
  rcases h with h | h <;> rcases g with g | g
  · exact ⟨Int32.toInt_inj.mp (h.2.2.trans g.2.2.symm), Int32.toInt_inj.mp (h.2.1.trans g.2.1.symm)⟩
  · exact absurd h.1 g.1
  · exact absurd g.1 h.1
  · exact ⟨h.2.2.trans g.2.2.symm, h.2.1.trans g.2.1.symm⟩
theorem feed_c (a1 a2 a3 a4 a5 : Int32) (s : Sg) (h0 : 0 ≤ (s.1 0 13).toInt) (h9 : (s.1 0 13).toInt ≤ 900) : PQ (f_X11_feed a1 a2 a3 a4 a5 s) (fun r s9 => FdR (s.1 0 13) r (s9.1 0 13)) := by
  have e900 : (900 : Int32).toInt = 900 := rfl
  have e20 : (20 : Int32).toInt = 20 := rfl
  have a20 : ((s.1 0 13) + 20).toInt = (s.1 0 13).toInt + 20 := i_addx (s.1 0 13) 20 (show -2147483648 ≤ (s.1 0 13).toInt + 20 ∧ (s.1 0 13).toInt + 20 ≤ 2147483647 from by omega)
  unfold f_X11_feed
  refine pq_if (fun c => ?_) (fun c => pq_s (Or.inr ⟨?_, rfl, rfl⟩))
  · have c := i_le c
    refine pq_b (po_p a1 s (by omega) (by omega)) (fun _ s2 g2 => pq_b (po_p a2 s2 (by omega) (by omega)) (fun _ s4 g4 => pq_b (po_p a3 s4 (by omega) (by omega)) (fun _ s6 g6 => pq_b (po_p a4 s6 (by omega) (by omega)) (fun _ s8 g8 => pq_b (po_p a5 s8 (by omega) (by omega)) (fun _ s10 g10 => pq_s (Or.inl ⟨?_, ?_, ?_⟩))))))
    · omega
    · omega
    · omega
  · have c := i_nle c
    omega
theorem feed_m (a1 a2 a3 a4 a5 : Int32) (s : Sg) (h0 : 0 ≤ (s.1 0 10).toInt) (h9 : (s.1 0 10).toInt ≤ 900) : PQ (f_X12_feed a1 a2 a3 a4 a5 s) (fun r s9 => FdR (s.1 0 10) r (s9.1 0 10)) := by
  have e900 : (900 : Int32).toInt = 900 := rfl
  have e20 : (20 : Int32).toInt = 20 := rfl
  have a20 : ((s.1 0 10) + 20).toInt = (s.1 0 10).toInt + 20 := i_addx (s.1 0 10) 20 (show -2147483648 ≤ (s.1 0 10).toInt + 20 ∧ (s.1 0 10).toInt + 20 ≤ 2147483647 from by omega)
  unfold f_X12_feed
  refine pq_if (fun c => ?_) (fun c => pq_s (Or.inr ⟨?_, rfl, rfl⟩))
  · have c := i_le c
    refine pq_b (fu_p a1 s (by omega) (by omega)) (fun _ s2 g2 => pq_b (fu_p a2 s2 (by omega) (by omega)) (fun _ s4 g4 => pq_b (fu_p a3 s4 (by omega) (by omega)) (fun _ s6 g6 => pq_b (fu_p a4 s6 (by omega) (by omega)) (fun _ s8 g8 => pq_b (fu_p a5 s8 (by omega) (by omega)) (fun _ s10 g10 => pq_s (Or.inl ⟨?_, ?_, ?_⟩))))))
    · omega
    · omega
    · omega
  · have c := i_nle c
    omega
/-! marks -/
theorem an_p (a : Int32) (s : Sg) : PQ (f_X11_answer a s) (fun r s9 => r = a ∧ s9.1 0 14 = s.1 0 14) := by
  unfold f_X11_answer
  exact pq_s ⟨rfl, q_ne rfl⟩
theorem re_p (a : Int32) (s : Sg) : PQ (f_X11_refuse a s) (fun r s9 => r = -1 ∧ s9.1 0 14 = s.1 0 14) := by
  unfold f_X11_refuse
  exact pq_s ⟨rfl, q_ne rfl⟩
def Mk (c : Prop) (d x r x9 : Int32) : Prop := (c ∧ r = x + d ∧ x9 = x + d) ∨ (¬ c ∧ r = -1 ∧ x9 = x)
theorem mk_eq {c : Prop} {d x r x9 y t y9 : Int32} (h : Mk c d x r x9) (g : Mk c d y t y9) (e : x = y) : x9 = y9 ∧ r = t := by
  subst e
  rcases h with h | h <;> rcases g with g | g
  · exact ⟨h.2.2.trans g.2.2.symm, h.2.1.trans g.2.1.symm⟩
  · exact absurd h.1 g.1
  · exact absurd g.1 h.1
  · exact ⟨h.2.2.trans g.2.2.symm, h.2.1.trans g.2.1.symm⟩
theorem mark_t (s : Sg) : PQ (f_X11_mark s) (fun r s9 => Mk ((s.1 0 14).toInt < 3) 1 (s.1 0 14) r (s9.1 0 14)) := by
  have e3 : (3 : Int32).toInt = 3 := rfl
  unfold f_X11_mark
  refine pq_if (fun c => pq_c (fun _ => ?_)) (fun c => pq_b (re_p 4 s) (fun _ s9 g => pq_s (Or.inr ⟨?_, g.1, g.2⟩)))
  · have c : (s.1 0 14).toInt < 3 := by have := i_lt c; omega
    refine pq_s3 ?_ ?_ ?_
    · refine pq_b (ft_X10_copyFrom_24_78 s) (fun _ s3 g3 => pq_b (an_p _ _) (fun r s5 g5 => pq_s (Or.inl ⟨c, ?_, ?_⟩)))
      · rw [g5.1, q_eq, fr_e g3 0 14 174 rfl rfl]
      · rw [g5.2, q_eq, fr_e g3 0 14 174 rfl rfl]
    · refine pq_b (ft_X10_copyFrom_24_105 s) (fun _ s3 g3 => pq_b (an_p _ _) (fun r s5 g5 => pq_s (Or.inl ⟨c, ?_, ?_⟩)))
      · rw [g5.1, q_eq, fr_e g3 0 14 174 rfl rfl]
      · rw [g5.2, q_eq, fr_e g3 0 14 174 rfl rfl]
    · refine pq_b (ft_X10_copyFrom_24_132 s) (fun _ s3 g3 => pq_b (an_p _ _) (fun r s5 g5 => pq_s (Or.inl ⟨c, ?_, ?_⟩)))
      · rw [g5.1, q_eq, fr_e g3 0 14 174 rfl rfl]
      · rw [g5.2, q_eq, fr_e g3 0 14 174 rfl rfl]
  · have := i_nlt c
    omega
theorem i_sub1 (a : Int32) : a - 1 = a + -1 := by
  apply Int32.toInt_inj.mp
  have e1 : (1 : Int32).toInt = 1 := rfl
  have em : (-1 : Int32).toInt = -1 := rfl
  have h1 := i_sub a 1
  have h2 := i_add a (-1)
  rw [h1, h2, e1, em]
  omega
theorem back_t (s : Sg) : PQ (f_X11_back s) (fun r s9 => Mk (0 < (s.1 0 14).toInt) (-1) (s.1 0 14) r (s9.1 0 14)) := by
  have e0 : (0 : Int32).toInt = 0 := rfl
  unfold f_X11_back
  refine pq_if (fun c => pq_c (fun _ => ?_)) (fun c => pq_b (re_p 6 s) (fun _ s9 g => pq_s (Or.inr ⟨?_, g.1, g.2⟩)))
  · have c : 0 < (s.1 0 14).toInt := by have := i_lt c; omega
    refine pq_s3 ?_ ?_ ?_
    · refine pq_b (ft_X10_copyFrom_78 _) (fun _ s3 g3 => pq_b (an_p _ _) (fun r s5 g5 => pq_s (Or.inl ⟨c, ?_, ?_⟩)))
      · rw [g5.1, fr_e g3 0 14 174 rfl rfl, q_eq, i_sub1]
      · rw [g5.2, fr_e g3 0 14 174 rfl rfl, q_eq, i_sub1]
    · refine pq_b (ft_X10_copyFrom_105 _) (fun _ s3 g3 => pq_b (an_p _ _) (fun r s5 g5 => pq_s (Or.inl ⟨c, ?_, ?_⟩)))
      · rw [g5.1, fr_e g3 0 14 174 rfl rfl, q_eq, i_sub1]
      · rw [g5.2, fr_e g3 0 14 174 rfl rfl, q_eq, i_sub1]
    · refine pq_b (ft_X10_copyFrom_132 _) (fun _ s3 g3 => pq_b (an_p _ _) (fun r s5 g5 => pq_s (Or.inl ⟨c, ?_, ?_⟩)))
      · rw [g5.1, fr_e g3 0 14 174 rfl rfl, q_eq, i_sub1]
      · rw [g5.2, fr_e g3 0 14 174 rfl rfl, q_eq, i_sub1]
  · have := i_nlt c
    omega
theorem gv_a (a : Int32) (s : Sg) : PQ (f_X12_gives a s) (fun r s9 => r = a ∧ s9.1 0 35 = s.1 0 35) := by
  unfold f_X12_gives
  exact pq_s ⟨rfl, q_ne rfl⟩
theorem rf_a (a : Int32) (s : Sg) : PQ (f_X12_refuse a s) (fun r s9 => r = -1 ∧ s9.1 0 35 = s.1 0 35) := by
  unfold f_X12_refuse
  exact pq_s ⟨rfl, q_ne rfl⟩
theorem mark_tm (s : Sg) (h : (s.1 0 35).toInt ≤ 3) : PQ (f_X12_mark s) (fun r s9 => Mk ((s.1 0 35).toInt < 3) 1 (s.1 0 35) r (s9.1 0 35)) := by
  have e3 : (3 : Int32).toInt = 3 := rfl
  unfold f_X12_mark
  refine pq_if (fun c => pq_b (rf_a 4 s) (fun _ s9 g => pq_s (Or.inr ⟨?_, g.1, g.2⟩))) (fun c => pq_b (ft_X12_copies _ _ _) (fun _ s4 g4 => pq_b (gv_a _ _) (fun r s6 g6 => pq_s (Or.inl ⟨?_, ?_, ?_⟩))))
  · have := i_eq c
    omega
  · have := i_ne c
    omega
  · rw [g6.1, fr_e g4 0 35 55 rfl rfl, q_eq]
  · rw [g6.2, fr_e g4 0 35 55 rfl rfl, q_eq]
theorem back_tm (s : Sg) (h : 0 ≤ (s.1 0 35).toInt) : PQ (f_X12_back s) (fun r s9 => Mk (0 < (s.1 0 35).toInt) (-1) (s.1 0 35) r (s9.1 0 35)) := by
  have e0 : (0 : Int32).toInt = 0 := rfl
  unfold f_X12_back
  refine pq_if (fun c => pq_b (rf_a 6 s) (fun _ s9 g => pq_s (Or.inr ⟨?_, g.1, g.2⟩))) (fun c => pq_b (ft_X12_copies _ _ _) (fun _ s4 g4 => pq_b (gv_a _ _) (fun r s6 g6 => pq_s (Or.inl ⟨?_, ?_, ?_⟩))))
  · have := i_eq c
    omega
  · have := i_ne c
    omega
  · rw [g6.1, q_eq, fr_e g4 0 35 55 rfl rfl, i_sub1]
  · rw [g6.2, q_eq, fr_e g4 0 35 55 rfl rfl, i_sub1]
/-! snow -/
theorem snow_cr (a1 : Int32) (s : Sg) : PQ (f_X11_snow a1 s) (fun r _ => (r = 1 ∧ (0 ≤ a1.toInt ∧ a1.toInt ≤ 99)) ∨ (r = 0 ∧ ¬ (0 ≤ a1.toInt ∧ a1.toInt ≤ 99))) := by
  unfold f_X11_snow
  refine pq_b (wi_p a1 0 99 s) (fun r1 s2 g => pq_if (fun c => pq_b (rd_0 1 s2) (fun r s3 g3 => pq_c (fun _ => pq_s (Or.inr ⟨g3, fun w => ?_⟩)))) (fun c => pq_b pq_tr (fun _ s6 _ => pq_b (gr_1 s6) (fun r s8 g8 => pq_c (fun _ => pq_s (Or.inl ⟨g8, ?_⟩))))))
  · rcases g.2 with q | q
    · exact absurd (q.1.symm.trans c) (by decide)
    · exact q.2 w
  · rcases g.2 with q | q
    · exact q.2
    · exact absurd q.1 c
theorem lgc_lt {x y : Int64} (h : lg_cmp x y < 0) : x.toInt < y.toInt := by
  by_cases q : x.toInt < y.toInt
  · exact q
  · exfalso
    have n : ¬ x < y := fun e => q (Int64.lt_iff_toInt_lt.mp e)
    unfold lg_cmp at h
    by_cases c : x > y
    · rw [if_pos c] at h; exact absurd h (by decide)
    · rw [if_neg c] at h
      by_cases d : x = y
      · rw [if_pos d] at h; exact absurd h (by decide)
      · have c' : ¬ y.toInt < x.toInt := fun e => c (Int64.lt_iff_toInt_lt.mpr e)
        exact d (Int64.toInt_inj.mp (by omega))
theorem lgc_nlt {x y : Int64} (h : ¬ lg_cmp x y < 0) : y.toInt ≤ x.toInt := by
  by_cases q : x.toInt < y.toInt
  · exfalso
    have lt : x < y := Int64.lt_iff_toInt_lt.mpr q
    refine h ?_
    have c : ¬ x > y := fun e => by have := Int64.lt_iff_toInt_lt.mp e; omega
    have d : ¬ x = y := fun e => by rw [e] at q; omega
    unfold lg_cmp
    rw [if_neg c, if_neg d]
    decide
  · omega
theorem lgc_gt {x y : Int64} (h : 0 < lg_cmp x y) : y.toInt < x.toInt := by
  by_cases q : y < x
  · exact Int64.lt_iff_toInt_lt.mp q
  · exfalso
    unfold lg_cmp at h
    rw [if_neg (show ¬ x > y from q)] at h
    by_cases d : x = y
    · rw [if_pos d] at h; exact absurd h (by decide)
    · rw [if_neg d] at h; exact absurd h (by decide)
theorem if_p (a0 a1 a2 : Int64) (s : Sg) : PQ (f_X12_isFrom a0 a1 a2 s) (fun r s9 => s9 = s ∧ ((r = 1 ∧ a1.toInt ≤ a0.toInt ∧ a0.toInt ≤ a2.toInt) ∨ (r = 0 ∧ ¬ (a1.toInt ≤ a0.toInt ∧ a0.toInt ≤ a2.toInt)))) := by
  unfold f_X12_isFrom
  refine pq_if (fun c => pq_s ⟨rfl, Or.inr ⟨rfl, ?_⟩⟩) (fun c => pq_if (fun c2 => pq_s ⟨rfl, Or.inr ⟨rfl, ?_⟩⟩) (fun c2 => pq_s ⟨rfl, Or.inl ⟨rfl, lgc_nlt c, lg_ngt c2⟩⟩))
  · have := lgc_lt c
    omega
  · have := lgc_gt c2
    omega
theorem snow_mr (a1 : Int32) (s : Sg) : PQ (f_X12_snow a1 s) (fun r _ => (r = 1 ∧ (0 ≤ a1.toInt ∧ a1.toInt ≤ 99)) ∨ (r = 0 ∧ ¬ (0 ≤ a1.toInt ∧ a1.toInt ≤ 99))) := by
  have e2 : a1.toInt64.toInt = a1.toInt := Int32.toInt_toInt64 a1
  have e0 : (0 : Int64).toInt = 0 := rfl
  have e99 : (99 : Int64).toInt = 99 := rfl
  unfold f_X12_snow
  refine pq_b (if_p a1.toInt64 0 99 s) (fun r1 s2 g => pq_if (fun c => pq_b (is_n 1 s2 (by decide)) (fun r s3 g3 => pq_c (fun _ => pq_s (Or.inr ⟨g3, fun w => ?_⟩)))) (fun c => pq_b pq_tr (fun _ s6 _ => pq_b (is_z s6) (fun r s8 g8 => pq_c (fun _ => pq_s (Or.inl ⟨g8, ?_⟩))))))
  · rcases g.2 with q | q
    · exact absurd (q.1.symm.trans c) (by decide)
    · refine q.2 ⟨?_, ?_⟩ <;> omega
  · rcases g.2 with q | q
    · have := q.2
      omega
    · exact absurd q.1 c
