/-! street: rows empty or slot 0 untouched -/
theorem j_c1 {L : Nat} {s0 s : Sg} (h : JM L s0 s) (hb : L &&& 19024661324255484494255249948674 = 0) : s.1 1 = s0.1 1 := by
  funext p
  exact Int32.toInt_inj.mp (j_fa h p hb)
theorem j_lo {L : Nat} {s0 s : Sg} (h : JM L s0 s) (hb : L &&& 1267650609671809445731386785794 = 0) (p : Nat) (hp : p < 480) : s.1 1 p = s0.1 1 p := by
  have m : Nat.testBit 1267650609671809445731386785794 (cdM 1 p) = true := mk_z (by decide) hp
  have e : (L &&& 1267650609671809445731386785794).testBit (cdM 1 p) = false := by rw [hb]; exact Nat.zero_testBit _
  rw [Nat.testBit_and, m, Bool.and_true] at e
  exact (h.2 1 p e).1
theorem tk_p (a : Int32) (s : Sg) : PQ (f_X12_taken a s) (fun _ s9 => s9.1 1 = s.1 1 ∧ s9.1 0 35 = s.1 0 35) := by
  unfold f_X12_taken
  refine pq_if (fun _ => ?_) (fun _ => ?_)
  · refine pq_b (gv_p _ _) (fun r s2 g => pq_s ⟨g.1.trans rfl, g.2.trans rfl⟩)
  · refine pq_b (rf_p _ _) (fun r s2 g => pq_s ⟨g.1.trans rfl, g.2.trans rfl⟩)
theorem sx_90 (n : Nat) : ∀ (v3 : Int32) (s : Sg), PQ (f_X12_street_b90 n v3 s) (fun _ s9 => s9.1 1 = s.1 1) := by
  induction n with
  | zero => intro v3 s r s' e; cases e
  | succ n ih =>
    intro v3 s
    unfold f_X12_street_b90
    refine pq_if (fun _ => pq_b (tk_p _ s) (fun r s2 g => pq_s g.1)) (fun _ => pq_c (fun _ => pq_c (fun _ => pq_n (fun s3 e3 => ?_))))
    refine pq_w (ih (v3 + 1) s3) (fun r s9 h => ?_)
    rw [h, e3]; rfl
theorem sx_59 (n : Nat) : ∀ (v3 : Int32) (s : Sg), 0 ≤ v3.toInt ∧ v3.toInt ≤ 480 → (v3.toInt ≤ 11 → s.1 1 1931 = -1) → (11 < v3.toInt → s.1 1 11 = -1) → PQ (f_X12_street_b59 n v3 s) (fun _ s9 => s9.1 1 11 = -1) := by
  induction n with
  | zero => intro v3 s _ _ _ r s' e; cases e
  | succ n ih =>
    intro v3 s h3 ha hb
    unfold f_X12_street_b59
    have e480 : (480 : Int32).toInt = 480 := rfl
    have e1 : (1 : Int32).toInt = 1 := rfl
    have e1920 : (1920 : Int32).toInt = 1920 := rfl
    refine pq_if (fun c => ?_) (fun c => ?_)
    · have c' := i_le c
      refine pq_w (sx_90 BIG 0 s) (fun r s9 h => ?_)
      rw [h]
      exact hb (by omega)
    · have c' := i_nle c
      refine pq_c (fun _ => pq_c (fun _ => pq_n (fun s6 e6 => ?_)))
      have a3 : (v3 + 1).toInt = v3.toInt + 1 := i_addx v3 1 (show -2147483648 ≤ v3.toInt + 1 ∧ v3.toInt + 1 ≤ 2147483647 from by omega)
      have p1 : (1920 + v3).toInt = 1920 + v3.toInt := i_addx 1920 v3 (show -2147483648 ≤ 1920 + v3.toInt ∧ 1920 + v3.toInt ≤ 2147483647 from by omega)
      have c3 := cl_nat v3
      have k1 := cl_nat (1920 + v3)
      refine ih (v3 + 1) s6 (by omega) (fun w => ?_) (fun w => ?_)
      · rw [e6, pI_1, if_neg (fun g => absurd g.2 (by omega))]
        exact ha (by omega)
      · by_cases q : v3.toInt = 11
        · have d1 : v3.toNatClampNeg = 11 := by omega
          have d2 : (1920 + v3).toNatClampNeg = 1931 := by omega
          rw [e6, d1, d2, pI_1, if_pos ⟨rfl, rfl⟩]
          exact ha (by omega)
        · rw [e6, pI_1, if_neg (fun g => absurd g.2 (by omega))]
          exact hb (by omega)
theorem sx_50 (s : Sg) (h : s.1 1 1931 = -1) : PQ (f_X12_street_b50 s) (fun _ s9 => s9.1 1 11 = -1 ∨ s9.1 1 = s.1 1) := by
  unfold f_X12_street_b50
  refine pq_if (fun _ => ?_) (fun _ => ?_)
  · exact pq_w (sx_59 BIG 0 s (by decide) (fun _ => h) (fun w => absurd w (by decide))) (fun _ _ g => Or.inl g)
  · exact pq_b (tk_p _ s) (fun r s2 g => pq_s (Or.inr g.1))
theorem sx_31 (n : Nat) : ∀ (v2 : Int32) (s : Sg), Rg rM s → s.1 1 1931 = -1 → PQ (f_X12_street_b31 n v2 s) (fun _ s9 => s9.1 1 11 = -1 ∨ ∀ p, p < 480 → s9.1 1 p = s.1 1 p) := by
  induction n with
  | zero => intro v2 s _ _ r s' e; cases e
  | succ n ih =>
    intro v2 s hR h
    unfold f_X12_street_b31
    have fin : PQ (f_X12_street_b50 s) (fun _ s9 => s9.1 1 11 = -1 ∨ ∀ p, p < 480 → s9.1 1 p = s.1 1 p) := pq_w (sx_50 s h) (fun _ _ g => g.elim Or.inl (fun e => Or.inr (fun p _ => by rw [e])))
    refine pq_if (fun _ => fin) (fun _ => pq_if (fun _ => fin) (fun _ => ?_))
    refine pq_b (pq_o (h_X12_streetPart hR)) (fun r s2 g => ?_)
    have q := (g.1.2 1 1931 (by decide)).1
    refine pq_w (ih r s2 g.1.1 (q.trans h)) (fun _ s9 w => w.elim Or.inl (fun w => Or.inr (fun p hp => ?_)))
    exact (w p hp).trans (j_lo g.1 (by decide) p hp)
theorem pl_p (n : Nat) : ∀ (v2 : Int32) (s : Sg), PQ (f_X12_plain_b2 n 1920 v2 s) (fun _ s9 => s9.1 1 1931 = -1) := by
  induction n with
  | zero => intro v2 s r s' e; cases e
  | succ n ih =>
    intro v2 s
    unfold f_X12_plain_b2
    refine pq_if (fun _ => ?_) (fun _ => pq_c (fun _ => pq_n (fun s6 e6 => ih (v2 + 1) s6)))
    refine pq_c (fun _ => pq_n (fun s2 e2 => pq_c (fun _ => pq_n (fun s4 e4 => pq_s ?_))))
    have d1 : ((1920 : Int32) + 11).toNatClampNeg = 1931 := by decide
    have d2 : ((1920 : Int32) + 13).toNatClampNeg = 1933 := by decide
    rw [e4, e2, d1, d2, pI_1, if_neg (fun g => absurd g.2 (by decide)), pI_1, if_pos ⟨rfl, rfl⟩]
set_option maxRecDepth 20000 in
theorem street_q (a1 : Int32) {s : Sg} (hR : Rg rM s) : PQ (f_X12_street a1 s) (fun _ s9 => s9.1 1 11 = -1 ∨ ∀ p, p < 480 → s9.1 1 p = s.1 1 p) := by
  unfold f_X12_street
  refine pq_b (pq_o (h_X12_begins a1 900 hR (by decide))) (fun r s2 g => ?_)
  have q2 : s2.1 1 = s.1 1 := j_c1 g.1 (by decide)
  refine pq_if (fun _ => ?_) (fun _ => ?_)
  · exact pq_b (rf_p 1 s2) (fun r4 s4 g4 => pq_s (Or.inr (fun p _ => by rw [g4.1, q2])))
  · refine pq_b (pq_o (oq_p (h_X12_plain 1920 g.1.1 (by decide)) (show PQ (f_X12_plain 1920 s2) (fun _ s9 => s9.1 1 1931 = -1) from by unfold f_X12_plain; exact pl_p BIG 0 s2))) (fun _ s6 g6 => ?_)
    have R6 : Rg rM (pI s6 0 20 0) := (show JM 1099511627776 s6 (pI s6 0 20 0) from j_wr 0 3 (j_refl g6.1.1.1) rfl 40 rfl rfl (by decide)).1
    refine pq_w (sx_31 BIG 1 (pI s6 0 20 0) R6 g6.2) (fun _ s9 w => w.elim Or.inl (fun w => Or.inr (fun p hp => ?_)))
    rw [w p hp, ← q2]
    exact j_lo g6.1.1 (by decide) p hp
theorem rr_m {s : Sg} (hR : Rg rM s) (j : Nat) : (s.1 1 (480 * j + 11)).toInt ≤ 60 := by
  have q := (hR 1 (480 * j + 11)).2
  have e : rM 1 (480 * j + 11) = (-1, 60) := rS_rows (by omega)
  rw [e] at q
  exact q
theorem inv_up {L : Nat} {s s9 : Sg} (hR : Rg rM s) (h : InvM s) (J : JM L s s9) (hb : L.testBit 101 = false) (h35 : L.testBit 55 = false) (h0 : RowB 0 s9) : InvM s9 := by
  intro j hj
  have e35 : s9.1 0 35 = s.1 0 35 := (J.2 0 35 h35).1
  rw [e35] at hj
  have r35 : 0 ≤ (s.1 0 35).toInt ∧ (s.1 0 35).toInt ≤ 3 := hR 0 35
  by_cases q : j = 0
  · subst q; exact h0
  · refine rowB_eq (h j hj) (rr_m hR j) (fun k hk => ?_)
    have e : cdM 1 (480 * j + k) = 101 := by
      rw [cdM_x, if_neg (by omega), if_neg (by omega), if_neg (by omega), if_pos (by omega)]
    exact (J.2 1 (480 * j + k) (by rw [e]; exact hb)).1
theorem street_p (a1 : Int32) {s : Sg} (hR : Rg rM s) (h : InvM s) : OQ (f_X12_street a1 s) (fun _ s9 => Rg rM s9 ∧ InvM s9) := by
  refine oq_w (oq_p (h_X12_street a1 hR) (street_q a1 hR)) (fun r s9 g => ⟨g.1.1.1, ?_⟩)
  refine inv_up hR h g.1.1 (by decide) (by decide) ?_
  rcases g.2 with q | q
  · intro p h1 h2 h3
    rw [Nat.zero_add, q] at h3
    have e : (-1 : Int32).toInt = -1 := rfl
    omega
  · have r35 : 0 ≤ (s.1 0 35).toInt ∧ (s.1 0 35).toInt ≤ 3 := hR 0 35
    have h0 : RowB 0 s := h 0 (by omega)
    refine rowB_eq h0 (rr_m hR 0) (fun k hk => ?_)
    rw [Nat.zero_add]
    exact q k hk
/-! days: what the reader's helpers leave alone -/
theorem by_k (a : Int32) (s : Sg) : PQ (f_X12_byteAt a s) (fun _ s9 => s9 = s) := by
  unfold f_X12_byteAt
  exact pq_if (fun _ => pq_s rfl) (fun _ => pq_c (fun _ => pq_s rfl))
theorem sm_k (a : Int32) (s : Sg) : PQ (f_X12_isSmall a s) (fun _ s9 => s9 = s) := by
  unfold f_X12_isSmall
  exact pq_if (fun _ => pq_s rfl) (fun _ => pq_if (fun _ => pq_s rfl) (fun _ => pq_s rfl))
theorem dg_k (a : Int32) (s : Sg) : PQ (f_X12_isDigit a s) (fun _ s9 => s9 = s) := by
  unfold f_X12_isDigit
  exact pq_if (fun _ => pq_s rfl) (fun _ => pq_if (fun _ => pq_s rfl) (fun _ => pq_s rfl))
theorem sg_k (a : Int32) (s : Sg) : PQ (f_X12_isSign a s) (fun _ s9 => s9 = s) := by
  unfold f_X12_isSign
  exact pq_if (fun _ => pq_if (fun _ => pq_s rfl) (fun _ => pq_s rfl)) (fun _ => pq_s rfl)
theorem gn_k (a : Int32) (s : Sg) : PQ (f_X12_isGone a s) (fun _ s9 => s9 = s) := by
  unfold f_X12_isGone
  exact pq_if (fun _ => pq_s rfl) (fun _ => pq_s rfl)
theorem nh_7 (n : Nat) : ∀ (v1 : Int64) (v3 : Int32) (s : Sg), PQ (f_X12_nameHere_b7 n v1 v3 s) (fun _ s9 => s9 = s) := by
  induction n with
  | zero => intro v1 v3 s r s' e; cases e
  | succ n ih =>
    intro v1 v3 s
    unfold f_X12_nameHere_b7
    refine pq_if (fun _ => pq_s rfl) (fun _ => pq_b (by_k v3 s) (fun r s2 g => pq_n (fun x _ => ?_)))
    rw [g]
    exact ih x (v3 + 1) s
theorem nh_k (s : Sg) : PQ (f_X12_nameHere s) (fun _ s9 => s9 = s) := by
  unfold f_X12_nameHere
  exact nh_7 _ _ _ _
theorem fh_2 (v1 v2 : Int32) (h2 : v2.toInt ≤ 8) (n : Nat) : ∀ (v3 : Int32) (s : Sg), 0 ≤ v3.toInt → v3.toInt ≤ 8 → PQ (f_X12_findHere_b2 n v1 v2 v3 s) (fun r s9 => s9 = s ∧ (r = -1 ∨ (0 ≤ r.toInt ∧ r.toInt ≤ 7))) := by
  induction n with
  | zero => intro v3 s _ _ r s' e; cases e
  | succ n ih =>
    intro v3 s h3 h4
    unfold f_X12_findHere_b2
    refine pq_if (fun _ => pq_s ⟨rfl, Or.inl rfl⟩) (fun c => pq_c (fun _ => pq_b (nh_k s) (fun r2 s3 g => ?_)))
    have c' := i_nle c
    subst g
    refine pq_if (fun _ => pq_s ⟨rfl, Or.inr (by omega)⟩) (fun _ => ?_)
    have e1 : (1 : Int32).toInt = 1 := rfl
    have a3 : (v3 + 1).toInt = v3.toInt + 1 := i_addx v3 1 (show -2147483648 ≤ v3.toInt + 1 ∧ v3.toInt + 1 ≤ 2147483647 from by omega)
    exact ih (v3 + 1) s3 (by omega) (by omega)
theorem fh_k (a b : Int32) (s : Sg) (h : b.toInt ≤ 8) : PQ (f_X12_findHere a b s) (fun r s9 => s9 = s ∧ (r = -1 ∨ (0 ≤ r.toInt ∧ r.toInt ≤ 7))) := by
  unfold f_X12_findHere
  exact fh_2 a b h BIG 0 s (by decide) (by decide)
theorem iw_115 (k : Int32 → Int32 → Sg → Option (Int32 × Sg)) (hk : ∀ x y s, PQ (k x y s) (fun _ s9 => s9 = s)) (v2 v4 v5 : Int32) (s : Sg) : PQ (f_X12_inWords_1001_b115 k v2 v4 v5 s) (fun _ s9 => s9 = s) := by
  unfold f_X12_inWords_1001_b115
  exact pq_if (fun _ => hk _ _ _) (fun _ => pq_s rfl)
theorem iw_68 (k : Int32 → Int32 → Sg → Option (Int32 × Sg)) (hk : ∀ x y s, PQ (k x y s) (fun _ s9 => s9 = s)) (n : Nat) : ∀ (v2 v3 v4 v5 v6 : Int32) (s : Sg), PQ (f_X12_inWords_1001_b68 k n v2 v3 v4 v5 v6 s) (fun _ s9 => s9 = s) := by
  induction n with
  | zero => intro v2 v3 v4 v5 v6 s r s' e; cases e
  | succ n ih =>
    intro v2 v3 v4 v5 v6 s
    unfold f_X12_inWords_1001_b68
    refine pq_if (fun _ => iw_115 k hk _ _ _ _) (fun _ => pq_if (fun _ => iw_115 k hk _ _ _ _) (fun _ => pq_c (fun _ => pq_b (by_k _ s) (fun r s2 g => ?_))))
    subst g
    exact pq_if (fun _ => ih _ _ _ _ _ _) (fun _ => ih _ _ _ _ _ _)
theorem iw_25 (k : Int32 → Int32 → Sg → Option (Int32 × Sg)) (hk : ∀ x y s, PQ (k x y s) (fun _ s9 => s9 = s)) (n : Nat) : ∀ (v2 v3 v4 : Int32) (s : Sg), PQ (f_X12_inWords_1001_b25 k n v2 v3 v4 s) (fun _ s9 => s9 = s) := by
  induction n with
  | zero => intro v2 v3 v4 s r s' e; cases e
  | succ n ih =>
    intro v2 v3 v4 s
    unfold f_X12_inWords_1001_b25
    exact pq_c (fun _ => pq_if (fun _ => pq_if (fun _ => iw_68 k hk _ _ _ _ _ _ _) (fun _ => iw_68 k hk _ _ _ _ _ _ _)) (fun _ => ih _ _ _ _))
theorem iw_14 (n : Nat) : ∀ (v2 v3 : Int32) (s : Sg), PQ (f_X12_inWords_1001_b14 n v2 v3 s) (fun _ s9 => s9 = s) := by
  induction n with
  | zero => intro v2 v3 s r s' e; cases e
  | succ n ih =>
    intro v2 v3 s
    unfold f_X12_inWords_1001_b14
    exact pq_if (fun _ => pq_s rfl) (fun _ => iw_25 _ ih _ _ _ _ _)
theorem iw_k (s : Sg) : PQ (f_X12_inWords_1001 s) (fun _ s9 => s9 = s) := by
  unfold f_X12_inWords_1001
  exact pq_if (fun _ => iw_14 _ _ _ _) (fun _ => pq_s rfl)
theorem in_k (s : Sg) : PQ (f_X12_isName_1001 s) (fun _ s9 => s9 = s) := by
  unfold f_X12_isName_1001
  refine pq_if (fun _ => pq_if (fun _ => pq_s rfl) (fun _ => pq_b (iw_k s) (fun r s2 g => ?_))) (fun _ => pq_s rfl)
  subst g
  exact pq_if (fun _ => pq_s rfl) (fun _ => pq_s rfl)
def K1 (s0 s : Sg) : Prop := s.1 1 = s0.1 1 ∧ s.1 8 = s0.1 8
theorem ah_128 {s0 : Sg} (n : Nat) : ∀ (s : Sg), K1 s0 s → PQ (f_X12_ahead_b128 n s) (fun _ s9 => K1 s0 s9) := by
  induction n with
  | zero => intro s _ r s' e; cases e
  | succ n ih =>
    intro s h
    unfold f_X12_ahead_b128
    refine pq_b (by_k _ s) (fun r s2 g => pq_b (dg_k _ s2) (fun r3 s3 g3 => ?_))
    subst g3; subst g
    refine pq_if (fun _ => pq_if (fun _ => pq_s h) (fun _ => pq_s h)) (fun _ => pq_b (by_k _ s3) (fun r4 s4 g4 => pq_n (fun s5 e5 => ?_)))
    subst g4; subst e5
    exact ih _ h
theorem ah_81 {s0 : Sg} (n : Nat) : ∀ (s : Sg), K1 s0 s → PQ (f_X12_ahead_b81 n s) (fun _ s9 => K1 s0 s9) := by
  induction n with
  | zero => intro s _ r s' e; cases e
  | succ n ih =>
    intro s h
    unfold f_X12_ahead_b81
    refine pq_b (by_k _ s) (fun r s2 g => pq_b (sm_k _ s2) (fun r3 s3 g3 => ?_))
    subst g3; subst g
    exact pq_if (fun _ => pq_s h) (fun _ => ih _ h)
theorem ah_0 {s0 : Sg} (n : Nat) : ∀ (s : Sg), K1 s0 s → PQ (f_X12_ahead_b0 n s) (fun _ s9 => K1 s0 s9) := by
  induction n with
  | zero => intro s _ r s' e; cases e
  | succ n ih =>
    intro s h
    unfold f_X12_ahead_b0
    refine pq_b (by_k _ s) (fun r s2 g => ?_)
    subst g
    refine pq_if (fun _ => ih _ h) (fun _ => pq_b (by_k _ s2) (fun r4 s4 g4 => ?_))
    subst g4
    refine pq_if (fun _ => ih _ h) (fun _ => pq_b (by_k _ _) (fun r6 s6 g6 => ?_))
    subst g6
    refine pq_if (fun _ => pq_s h) (fun _ => pq_b (sm_k _ _) (fun r8 s8 g8 => ?_))
    subst g8
    refine pq_if (fun _ => pq_b (dg_k _ _) (fun r10 s10 g10 => ?_)) (fun _ => ah_81 _ _ h)
    subst g10
    refine pq_if (fun _ => pq_if (fun _ => pq_n (fun x e => ?_)) (fun _ => pq_if (fun _ => pq_n (fun x e => ?_)) (fun _ => pq_if (fun _ => pq_n (fun x e => ?_)) (fun _ => pq_if (fun _ => pq_n (fun x e => ?_)) (fun _ => pq_n (fun x e => ?_)))))) (fun _ => ah_128 _ _ h) <;> (subst e; exact pq_s h)
theorem ah_k (s : Sg) : PQ (f_X12_ahead s) (fun _ s9 => K1 s s9) := by
  unfold f_X12_ahead
  exact ah_0 _ _ ⟨rfl, rfl⟩
theorem fl_k (a : Int32) (s : Sg) (h : ¬ a = 0) : PQ (f_X12_fails a s) (fun r s9 => r = 0 ∧ ¬ s9.1 0 18 = 0 ∧ K1 s s9) := by
  unfold f_X12_fails
  refine pq_if (fun _ => pq_if (fun _ => pq_n (fun x e => pq_s ⟨rfl, ?_, ?_⟩)) (fun _ => pq_n (fun x e => pq_s ⟨rfl, ?_, ?_⟩))) (fun c => pq_s ⟨rfl, c, rfl, rfl⟩)
  · rw [e, pI_1, if_neg (fun g => absurd g.2 (by decide)), pI_1, if_pos ⟨rfl, rfl⟩]; decide
  · subst e; exact ⟨rfl, rfl⟩
  · rw [e, pI_1, if_neg (fun g => absurd g.2 (by decide)), pI_1, if_pos ⟨rfl, rfl⟩]; exact h
  · subst e; exact ⟨rfl, rfl⟩
/-- a reader's step: fails, or the state is as Q says -/
def OkF (Q : Sg → Prop) (r : Int32) (s : Sg) : Prop := (r = 0 → ¬ s.1 0 18 = 0) ∧ (¬ r = 0 → Q s)
theorem okf_f {Q : Sg → Prop} {r : Int32} {s0 s : Sg} (h : r = 0 ∧ ¬ s.1 0 18 = 0 ∧ K1 s0 s) : OkF Q r s := ⟨fun _ => h.2.1, fun w => absurd h.1 w⟩
theorem fl_x {Q : Sg → Prop} (a : Int32) (s : Sg) (h : ¬ a = 0) : PQ (bd (f_X12_fails a s) (fun r s2 => ck (r = 0 ∨ r = 1) (some (r, s2)))) (OkF Q) := pq_b (fl_k a s h) (fun _ _ g => pq_c (fun _ => pq_s (okf_f g)))
theorem ok_1 {Q : Sg → Prop} {s : Sg} (h : Q s) : OkF Q 1 s := ⟨fun w => absurd w (by decide), fun _ => h⟩
theorem ok_c {Q : Sg → Prop} {o : Option (Int32 × Sg)} (h : PQ o (OkF Q)) : PQ (bd o (fun r s2 => ck (r = 0 ∨ r = 1) (some (r, s2)))) (OkF Q) := pq_b h (fun _ _ g => pq_c (fun _ => pq_s g))
theorem ok_b {P Q : Sg → Prop} {o : Option (Int32 × Sg)} {k : Sg → Option (Int32 × Sg)} (h : PQ o (OkF P)) (g : ∀ s, P s → PQ (k s) (OkF Q)) : PQ (bd o (fun r s2 => if r = 0 then some (0, s2) else k s2)) (OkF Q) :=
  pq_b h (fun r s2 w => pq_if (fun c => pq_s ⟨fun _ => w.1 c, fun x => absurd rfl x⟩) (fun c => g s2 (w.2 c)))
theorem ws_k (a : Int32) (s : Sg) : PQ (f_X12_wantSign a s) (OkF (K1 s)) := by
  unfold f_X12_wantSign
  refine pq_b (sg_k a s) (fun r s2 g => ?_)
  subst g
  exact pq_if (fun _ => fl_x 2 s2 (by decide)) (fun _ => pq_b (ah_k s2) (fun _ s6 g => pq_s (ok_1 g)))
theorem ww_k (a : Int32) (s : Sg) : PQ (f_X12_wantWord_1001 a s) (OkF (K1 s)) := by
  unfold f_X12_wantWord_1001
  refine pq_b (iw_k s) (fun r s2 g => ?_)
  subst g
  exact pq_if (fun _ => pq_b (ah_k s2) (fun _ s6 g => pq_s (ok_1 g))) (fun _ => fl_x 2 s2 (by decide))
/-- one place of 'at' may differ -/
def One (s0 s : Sg) (a : Nat) : Prop := (∀ p, ¬ p = a → s.1 1 p = s0.1 1 p) ∧ s.1 8 = s0.1 8
theorem one_k {s0 s s' : Sg} {a : Nat} (h : One s0 s a) (k : K1 s s') : One s0 s' a := ⟨fun p hp => by rw [k.1]; exact h.1 p hp, k.2.trans h.2⟩
theorem one_w (s : Sg) (a : Nat) (v : Int32) : One s (pI s 1 a v) a := ⟨fun p hp => by rw [pI_1, if_neg (fun g => hp g.2)], rfl⟩
theorem nu_k (a1 a2 a3 : Int32) (s : Sg) : PQ (f_X12_number a1 a2 a3 s) (OkF (fun s9 => One s s9 a1.toNatClampNeg)) := by
  unfold f_X12_number
  refine pq_if (fun _ => pq_if (fun _ => fl_x 4 s (by decide)) (fun _ => pq_if (fun _ => pq_c (fun _ => pq_n (fun s4 e4 => ?_))) (fun _ => fl_x 4 s (by decide)))) (fun _ => fl_x 2 s (by decide))
  subst e4
  exact pq_b (ah_k _) (fun _ s6 g => pq_s (ok_1 (one_k (one_w s _ _) g)))
theorem oo_k (a1 a2 a3 : Int32) (s : Sg) (h2 : a2.toInt ≤ 8) : PQ (f_X12_oldOne a1 a2 a3 s) (OkF (fun s9 => One s s9 a3.toNatClampNeg ∧ 0 ≤ (s9.1 1 a3.toNatClampNeg).toInt ∧ (s9.1 1 a3.toNatClampNeg).toInt ≤ 7)) := by
  unfold f_X12_oldOne
  refine pq_b (in_k s) (fun r s2 g => ?_)
  subst g
  refine pq_if (fun _ => fl_x 2 s2 (by decide)) (fun _ => pq_b (fh_k a1 a2 s2 h2) (fun r5 s6 g6 => pq_c (fun _ => ?_)))
  have e6 := g6.1
  subst e6
  have u : (pI s6 1 a3.toNatClampNeg r5).1 1 a3.toNatClampNeg = r5 := by rw [pI_1, if_pos ⟨rfl, rfl⟩]
  refine pq_if (fun _ => fl_x 3 _ (by decide)) (fun c => pq_b (ah_k _) (fun _ s9 g => pq_s (ok_1 ⟨one_k (one_w s6 _ _) g, ?_⟩)))
  rw [u] at c
  rw [g.1, u]
  exact g6.2.elim (fun w => absurd w c) id
theorem to_k (a1 : Int32) (s : Sg) (h : (s.1 1 0).toInt ≤ 8) : PQ (f_X12_stepTo a1 s) (OkF (fun s9 => One s s9 a1.toNatClampNeg ∧ 0 ≤ (s9.1 1 a1.toNatClampNeg).toInt ∧ (s9.1 1 a1.toNatClampNeg).toInt ≤ 7)) := by
  have q : ∀ t0, PQ (f_X12_stepTo_b24 a1 t0 s) (OkF (fun s9 => One s s9 a1.toNatClampNeg ∧ 0 ≤ (s9.1 1 a1.toNatClampNeg).toInt ∧ (s9.1 1 a1.toNatClampNeg).toInt ≤ 7)) := fun t0 => by
    unfold f_X12_stepTo_b24
    refine pq_if (fun _ => ok_c (oo_k 0 _ a1 s h)) (fun _ => pq_b (gn_k t0 s) (fun r6 s6 g => ?_))
    subst g
    exact pq_if (fun _ => ok_c (oo_k 0 _ a1 s6 h)) (fun _ => fl_x 5 s6 (by decide))
  unfold f_X12_stepTo
  refine pq_b (in_k s) (fun r s2 g => ?_)
  subst g
  refine pq_if (fun _ => q (-1)) (fun _ => pq_b (fh_k 0 _ s2 h) (fun r5 s6 g6 => ?_))
  have e6 := g6.1
  subst e6
  exact q r5
/-- six places may differ -/
def Six (s0 s : Sg) (a : Nat) : Prop := (∀ p, (p < a ∨ a + 6 ≤ p) → s.1 1 p = s0.1 1 p) ∧ s.1 8 = s0.1 8
theorem six_1 {s0 s s' : Sg} {a b : Nat} (h : Six s0 s a) (o : One s s' b) (hb : a ≤ b ∧ b < a + 6) : Six s0 s' a := ⟨fun p hp => (o.1 p (by omega)).trans (h.1 p hp), o.2.trans h.2⟩
theorem six_k {s0 s s' : Sg} {a : Nat} (h : Six s0 s a) (k : K1 s s') : Six s0 s' a := ⟨fun p hp => by rw [k.1]; exact h.1 p hp, k.2.trans h.2⟩
theorem six_r (s : Sg) (a : Nat) : Six s s a := ⟨fun _ _ => rfl, rfl⟩
/-- a row is good -/
def RGd (s : Sg) (p : Nat) : Prop := ((s.1 1 p).toInt = 19 ∨ (s.1 1 p).toInt = 20 ∨ (s.1 1 p).toInt = 21 ∨ (s.1 1 p).toInt = 2428 ∨ (s.1 1 p).toInt = 2429 → 0 ≤ (s.1 1 (p + 1)).toInt ∧ (s.1 1 (p + 1)).toInt ≤ 7) ∧ ((s.1 1 p).toInt = 20 → 0 ≤ (s.1 1 (p + 3)).toInt)
theorem te_k (a1 : Int32) (s : Sg) (ha : 0 ≤ a1.toInt ∧ a1.toInt ≤ 2400) (hlo : 20 ≤ a1.toInt) (h0 : (s.1 1 0).toInt ≤ 8) (h1 : (s.1 1 1).toInt ≤ 8) : PQ (f_X12_test a1 s) (OkF (fun s9 => Six s s9 a1.toNatClampNeg ∧ RGd s9 a1.toNatClampNeg)) := by
  have ca := cl_nat a1
  have e1 : (1 : Int32).toInt = 1 := rfl
  have e2 : (2 : Int32).toInt = 2 := rfl
  have e5 : (5 : Int32).toInt = 5 := rfl
  have e28 : (28 : Int32).toInt = 28 := rfl
  have e30 : (30 : Int32).toInt = 30 := rfl
  have e24 : (2400 : Int32).toInt = 2400 := rfl
  have p1 : (a1 + 1).toInt = a1.toInt + 1 := i_addx a1 1 (show -2147483648 ≤ a1.toInt + 1 ∧ a1.toInt + 1 ≤ 2147483647 from by omega)
  have p2 : (a1 + 2).toInt = a1.toInt + 2 := i_addx a1 2 (show -2147483648 ≤ a1.toInt + 2 ∧ a1.toInt + 2 ≤ 2147483647 from by omega)
  have p5 : (a1 + 5).toInt = a1.toInt + 5 := i_addx a1 5 (show -2147483648 ≤ a1.toInt + 5 ∧ a1.toInt + 5 ≤ 2147483647 from by omega)
  have c1 := cl_nat (a1 + 1)
  have c2 := cl_nat (a1 + 2)
  have c5 := cl_nat (a1 + 5)
  have d1 : (a1 + 1).toNatClampNeg = a1.toNatClampNeg + 1 := by omega
  have tail : ∀ s8, Six s s8 a1.toNatClampNeg → (s8.1 1 a1.toNatClampNeg).toInt = 2430 → PQ (f_X12_test_b101 a1 s8) (OkF (fun s9 => Six s s9 a1.toNatClampNeg ∧ RGd s9 a1.toNatClampNeg)) := fun s8 h8 k8 => by
    unfold f_X12_test_b101
    refine pq_c (fun _ => pq_n (fun s18 e18 => ?_))
    subst e18
    refine pq_b (ah_k _) (fun _ s20 g20 => pq_b (nu_k _ _ _ s20) (fun r s22 g22 => pq_c (fun _ => pq_s ⟨g22.1, fun w => ?_⟩)))
    have o := g22.2 w
    have h18 : Six s (pI s8 1 (a1 + 5).toNatClampNeg (s8.1 0 15)) a1.toNatClampNeg := six_1 h8 (one_w s8 _ _) (by omega)
    refine ⟨six_1 (six_k h18 g20) o (by omega), ?_⟩
    have kk : (s22.1 1 a1.toNatClampNeg).toInt = 2430 := by
      rw [o.1 a1.toNatClampNeg (by omega), g20.1, pI_1, if_neg (fun g => absurd g.2 (by omega))]
      exact k8
    exact ⟨fun w => absurd w (by omega), fun w => absurd w (by omega)⟩
  unfold f_X12_test
  refine pq_b (iw_k s) (fun r1 s2 g => ?_)
  subst g
  refine pq_if (fun c => pq_c (fun _ => pq_n (fun s4 e4 => ?_))) (fun _ => fl_x 2 s2 (by decide))
  subst e4
  have c' := i_le c
  have hk := i_add 2400 r1
  have rr := i_rg r1
  refine pq_b (ah_k _) (fun _ s6 g6 => ?_)
  have h6 : Six s2 s6 a1.toNatClampNeg := six_k (six_1 (six_r s2 _) (one_w s2 _ _) (by omega)) g6
  have k6 : s6.1 1 a1.toNatClampNeg = 2400 + r1 := by rw [g6.1, pI_1, if_pos ⟨rfl, rfl⟩]
  have z0 : s6.1 1 0 = s2.1 1 0 := h6.1 0 (by omega)
  have z1 : s6.1 1 1 = s2.1 1 1 := h6.1 1 (by omega)
  refine pq_if (fun c3 => ?_) (fun c3 => ?_)
  · have k30 : (s6.1 1 a1.toNatClampNeg).toInt = 2430 := by rw [k6, c3]; rfl
    refine ok_b (to_k (a1 + 1) s6 (by rw [z0]; exact h0)) (fun s8 g8 => ?_)
    have h8 : Six s2 s8 a1.toNatClampNeg := six_1 h6 g8.1 (by omega)
    have k8 : (s8.1 1 a1.toNatClampNeg).toInt = 2430 := by rw [g8.1.1 a1.toNatClampNeg (by omega)]; exact k30
    refine pq_b (sg_k 60 s8) (fun r9 s10 g => ?_)
    subst g
    refine pq_if (fun _ => pq_b (sg_k 62 s10) (fun r11 s12 g => ?_)) (fun _ => tail s10 h8 k8)
    subst g
    refine pq_if (fun _ => pq_b (sg_k 61 s12) (fun r13 s14 g => ?_)) (fun _ => tail s12 h8 k8)
    subst g
    exact pq_if (fun _ => fl_x 2 s14 (by decide)) (fun _ => tail s14 h8 k8)
  · refine ok_c (pq_w (oo_k 8 _ (a1 + 1) s6 (by rw [z1]; exact h1)) (fun r s24 g => ⟨g.1, fun w => ?_⟩))
    have o := g.2 w
    rw [d1] at o
    refine ⟨six_1 h6 o.1 (by omega), fun _ => o.2, fun w => ?_⟩
    rw [o.1.1 a1.toNatClampNeg (by omega), k6] at w
    omega
theorem do_k (a1 a2 : Int32) (s : Sg) (h1 : a1.toInt ≤ 100) (ha : 2030 ≤ a2.toInt ∧ a2.toInt ≤ 2400) (hk : s.1 1 a2.toNatClampNeg = a1) (h0 : (s.1 1 0).toInt ≤ 8) (hq : (s.1 1 1).toInt ≤ 8) (h3 : (s.1 1 3).toInt ≤ 8) : PQ (f_X12_dayOrder a1 a2 s) (OkF (fun s9 => Six s s9 a2.toNatClampNeg ∧ RGd s9 a2.toNatClampNeg)) := by
  have ca := cl_nat a2
  have e1 : (1 : Int32).toInt = 1 := rfl
  have e2 : (2 : Int32).toInt = 2 := rfl
  have e3 : (3 : Int32).toInt = 3 := rfl
  have p1 : (a2 + 1).toInt = a2.toInt + 1 := i_addx a2 1 (show -2147483648 ≤ a2.toInt + 1 ∧ a2.toInt + 1 ≤ 2147483647 from by omega)
  have p2 : (a2 + 2).toInt = a2.toInt + 2 := i_addx a2 2 (show -2147483648 ≤ a2.toInt + 2 ∧ a2.toInt + 2 ≤ 2147483647 from by omega)
  have p3 : (a2 + 3).toInt = a2.toInt + 3 := i_addx a2 3 (show -2147483648 ≤ a2.toInt + 3 ∧ a2.toInt + 3 ≤ 2147483647 from by omega)
  have c1 := cl_nat (a2 + 1)
  have c2 := cl_nat (a2 + 2)
  have c3 := cl_nat (a2 + 3)
  have d1 : (a2 + 1).toNatClampNeg = a2.toNatClampNeg + 1 := by omega
  have d2 : (a2 + 2).toNatClampNeg = a2.toNatClampNeg + 2 := by omega
  have d3 : (a2 + 3).toNatClampNeg = a2.toNatClampNeg + 3 := by omega
  have f19 : (19 : Int32).toInt = 19 := rfl
  have f20 : (20 : Int32).toInt = 20 := rfl
  have f21 : (21 : Int32).toInt = 21 := rfl
  have fin : ∀ s9, s9.1 1 a2.toNatClampNeg = a1 → ¬ a1 = 19 → ¬ a1 = 20 → ¬ a1 = 21 → RGd s9 a2.toNatClampNeg := fun s9 e w1 w2 w3 => by
    have v1 := i_ne w1
    have v2 := i_ne w2
    have v3 := i_ne w3
    unfold RGd
    rw [e]
    exact ⟨fun w => absurd w (by omega), fun w => absurd w (by omega)⟩
  have num : ∀ (k b c : Int32), (a2.toNatClampNeg < k.toNatClampNeg ∧ k.toNatClampNeg < a2.toNatClampNeg + 6) → ¬ a1 = 19 → ¬ a1 = 20 → ¬ a1 = 21 → PQ (f_X12_number k b c s) (OkF (fun s9 => Six s s9 a2.toNatClampNeg ∧ RGd s9 a2.toNatClampNeg)) := fun k b c hk2 w1 w2 w3 =>
    pq_w (nu_k k b c s) (fun r s9 g => ⟨g.1, fun w => ⟨six_1 (six_r s _) (g.2 w) (by omega), fin s9 (((g.2 w).1 _ (by omega)).trans hk) w1 w2 w3⟩⟩)
  have one : ¬ a1 = 19 → ¬ a1 = 20 → ¬ a1 = 21 → PQ (some ((1 : Int32), s)) (OkF (fun s9 => Six s s9 a2.toNatClampNeg ∧ RGd s9 a2.toNatClampNeg)) := fun w1 w2 w3 => pq_s (ok_1 ⟨six_r s _, fin s hk w1 w2 w3⟩)
  unfold f_X12_dayOrder
  refine pq_if (fun c => ok_c (num _ _ _ (by omega) (by rw [c]; decide) (by rw [c]; decide) (by rw [c]; decide))) (fun _ => ?_)
  refine pq_if (fun c => one (by rw [c]; decide) (by rw [c]; decide) (by rw [c]; decide)) (fun _ => ?_)
  refine pq_if (fun c => one (by rw [c]; decide) (by rw [c]; decide) (by rw [c]; decide)) (fun _ => ?_)
  refine pq_if (fun c => one (by rw [c]; decide) (by rw [c]; decide) (by rw [c]; decide)) (fun _ => ?_)
  refine pq_if (fun c => one (by rw [c]; decide) (by rw [c]; decide) (by rw [c]; decide)) (fun _ => ?_)
  refine pq_if (fun c => one (by rw [c]; decide) (by rw [c]; decide) (by rw [c]; decide)) (fun _ => ?_)
  refine pq_if (fun c => one (by rw [c]; decide) (by rw [c]; decide) (by rw [c]; decide)) (fun _ => ?_)
  refine pq_if (fun c => one (by rw [c]; decide) (by rw [c]; decide) (by rw [c]; decide)) (fun _ => ?_)
  refine pq_if (fun c => one (by rw [c]; decide) (by rw [c]; decide) (by rw [c]; decide)) (fun _ => ?_)
  refine pq_if (fun c => one (by rw [c]; decide) (by rw [c]; decide) (by rw [c]; decide)) (fun _ => ?_)
  refine pq_if (fun c => one (by rw [c]; decide) (by rw [c]; decide) (by rw [c]; decide)) (fun _ => ?_)
  refine pq_if (fun c => one (by rw [c]; decide) (by rw [c]; decide) (by rw [c]; decide)) (fun _ => ?_)
  refine pq_if (fun c => one (by rw [c]; decide) (by rw [c]; decide) (by rw [c]; decide)) (fun _ => ?_)
  refine pq_if (fun c => one (by rw [c]; decide) (by rw [c]; decide) (by rw [c]; decide)) (fun _ => ?_)
  refine pq_if (fun c => one (by rw [c]; decide) (by rw [c]; decide) (by rw [c]; decide)) (fun _ => ?_)
  refine pq_if (fun c => ?_) (fun n19 => ?_)
  · refine ok_b (to_k (a2 + 1) s h0) (fun s4 g4 => ok_b (nu_k (a2 + 2) 1 999 s4) (fun s6 g6 => pq_s (ok_1 ?_)))
    rw [d1] at g4
    rw [d2] at g6
    refine ⟨six_1 (six_1 (six_r s _) g4.1 (by omega)) g6 (by omega), fun _ => ?_, fun w => ?_⟩
    · rw [g6.1 _ (by omega)]; exact g4.2
    · rw [g6.1 _ (by omega), g4.1.1 _ (by omega), hk, c] at w
      omega
  refine pq_if (fun c => ?_) (fun n20 => ?_)
  · refine ok_b (oo_k 20 _ (a2 + 3) s h3) (fun s8 g8 => ok_b (nu_k (a2 + 2) 1 999 s8) (fun s10 g10 => ok_b (ww_k 12 s10) (fun s12 g12 => ?_)))
    rw [d3] at g8
    rw [d2] at g10
    have z0 : s12.1 1 0 = s.1 1 0 := by rw [g12.1, g10.1 0 (by omega), g8.1.1 0 (by omega)]
    refine ok_b (to_k (a2 + 1) s12 (by rw [z0]; exact h0)) (fun s14 g14 => pq_s (ok_1 ?_))
    rw [d1] at g14
    refine ⟨six_1 (six_k (six_1 (six_1 (six_r s _) g8.1 (by omega)) g10 (by omega)) g12) g14.1 (by omega), fun _ => g14.2, fun _ => ?_⟩
    rw [g14.1.1 _ (by omega), g12.1, g10.1 _ (by omega)]
    exact g8.2.1
  refine pq_if (fun c => ?_) (fun n21 => ?_)
  · refine ok_c (pq_w (to_k (a2 + 1) s h0) (fun r s9 g => ⟨g.1, fun w => ?_⟩))
    have o := g.2 w
    rw [d1] at o
    refine ⟨six_1 (six_r s _) o.1 (by omega), fun _ => o.2, fun w => ?_⟩
    rw [o.1.1 _ (by omega), hk, c] at w
    omega
  refine pq_if (fun c => ok_c (num _ _ _ (by omega) n19 n20 n21)) (fun _ => ?_)
  refine pq_if (fun c => one n19 n20 n21) (fun _ => ?_)
  refine pq_if (fun c => ok_c (te_k a2 s (by omega) (by omega) h0 hq)) (fun _ => ?_)
  refine pq_if (fun c => ok_c (num _ _ _ (by omega) n19 n20 n21)) (fun _ => one n19 n20 n21)
/-! the rows of NEW -/
def Gd (s : Sg) : Prop := ∀ p : Nat, 2030 ≤ p → (p - 2030) % 6 = 0 → (p : Int) < 2030 + 6 * (s.1 1 1931).toInt → RGd s p
theorem gd_k {s s' : Sg} (h : Gd s) (k : s'.1 1 = s.1 1) : Gd s' := by
  unfold Gd RGd
  rw [k]
  exact h
theorem gd_par {s : Sg} (h : Gd s) (p : Nat) (v : Int32) (hp : 2034 ≤ p) (hm : (p - 2030) % 6 = 4) : Gd (pI s 1 p v) := by
  intro q h1 h2 h3
  have w : ∀ i, ¬ i = p → (pI s 1 p v).1 1 i = s.1 1 i := fun i hi => by rw [pI_1, if_neg (fun g => hi g.2)]
  rw [w 1931 (by omega)] at h3
  have u := h q h1 h2 h3
  unfold RGd
  rw [w q (by omega), w (q + 1) (by omega), w (q + 3) (by omega)]
  exact u
def H8 (s : Sg) : Prop := ∀ d, 0 ≤ (s.1 8 d).toInt ∧ (s.1 8 d).toInt ≤ 60
theorem ds_227 (v1 v2 v3 : Int32) (s : Sg) (h2 : 0 ≤ v2.toInt ∧ v2.toInt ≤ 60) (h3 : v3.toInt = 2030 + 6 * v2.toInt) (h8 : H8 s) (hg : Gd s) : PQ (f_X12_dayStep_b227 v1 v2 v3 s) (OkF Gd) := by
  unfold f_X12_dayStep_b227
  have e4 : (4 : Int32).toInt = 4 := rfl
  have e6 : (6 : Int32).toInt = 6 := rfl
  have e2 : (2030 : Int32).toInt = 2030 := rfl
  have p4 : (v3 + 4).toInt = v3.toInt + 4 := i_addx v3 4 (show -2147483648 ≤ v3.toInt + 4 ∧ v3.toInt + 4 ≤ 2147483647 from by omega)
  have c4 := cl_nat (v3 + 4)
  refine pq_if (fun _ => pq_c (fun _ => pq_c (fun _ => pq_n (fun s14 e14 => pq_c (fun _ => pq_c (fun _ => pq_n (fun s17 e17 => ?_))))))) (fun _ => ?_)
  · have g14 : Gd s14 := by
      rw [e14]
      exact gd_par (gd_k hg rfl) _ _ (by omega) (by omega)
    have k8 : s14.1 8 = s.1 8 := by rw [e14]; rfl
    have u := h8 ((s14.1 0 22).toNatClampNeg)
    rw [← k8] at u
    have m1 : (6 * (s14.1 8 ((s14.1 0 22).toNatClampNeg))).toInt = 6 * (s14.1 8 ((s14.1 0 22).toNatClampNeg)).toInt := i_mulx 6 (s14.1 8 ((s14.1 0 22).toNatClampNeg)) (show -2147483648 ≤ 6 * (s14.1 8 ((s14.1 0 22).toNatClampNeg)).toInt ∧ 6 * (s14.1 8 ((s14.1 0 22).toNatClampNeg)).toInt ≤ 2147483647 from by omega)
    have m2 : (2030 + (6 * (s14.1 8 ((s14.1 0 22).toNatClampNeg)))).toInt = 2030 + (6 * (s14.1 8 ((s14.1 0 22).toNatClampNeg))).toInt := i_addx 2030 _ (show -2147483648 ≤ 2030 + (6 * (s14.1 8 ((s14.1 0 22).toNatClampNeg))).toInt ∧ 2030 + (6 * (s14.1 8 ((s14.1 0 22).toNatClampNeg))).toInt ≤ 2147483647 from by omega)
    have m3 : ((2030 + (6 * (s14.1 8 ((s14.1 0 22).toNatClampNeg)))) + 4).toInt = (2030 + (6 * (s14.1 8 ((s14.1 0 22).toNatClampNeg)))).toInt + 4 := i_addx _ 4 (show -2147483648 ≤ (2030 + (6 * (s14.1 8 ((s14.1 0 22).toNatClampNeg)))).toInt + 4 ∧ (2030 + (6 * (s14.1 8 ((s14.1 0 22).toNatClampNeg)))).toInt + 4 ≤ 2147483647 from by omega)
    have m4 := cl_nat ((2030 + (6 * (s14.1 8 ((s14.1 0 22).toNatClampNeg)))) + 4)
    have g17 : Gd s17 := by
      rw [e17]
      exact gd_par g14 _ _ (by omega) (by omega)
    exact ok_c (pq_w (ws_k 59 s17) (fun r s9 g => ⟨g.1, fun w => gd_k g17 (g.2 w).1⟩))
  · exact ok_c (pq_w (ws_k 59 s) (fun r s9 g => ⟨g.1, fun w => gd_k hg (g.2 w).1⟩))
def Cx (s : Sg) (v2 v3 : Int32) : Prop := (0 ≤ v2.toInt ∧ v2.toInt ≤ 60) ∧ (v3.toInt = 2030 + 6 * v2.toInt) ∧ H8 s ∧ s.1 1 1931 = v2 ∧ Gd s ∧ (s.1 1 0).toInt ≤ 8 ∧ (s.1 1 1).toInt ≤ 8 ∧ (s.1 1 3).toInt ≤ 8
theorem Cx.h2 {s : Sg} {v2 v3 : Int32} (h : Cx s v2 v3) : 0 ≤ v2.toInt ∧ v2.toInt ≤ 60 := h.1
theorem Cx.h3 {s : Sg} {v2 v3 : Int32} (h : Cx s v2 v3) : v3.toInt = 2030 + 6 * v2.toInt := h.2.1
theorem Cx.h8 {s : Sg} {v2 v3 : Int32} (h : Cx s v2 v3) : H8 s := h.2.2.1
theorem Cx.a {s : Sg} {v2 v3 : Int32} (h : Cx s v2 v3) : s.1 1 1931 = v2 := h.2.2.2.1
theorem Cx.hg {s : Sg} {v2 v3 : Int32} (h : Cx s v2 v3) : Gd s := h.2.2.2.2.1
theorem Cx.c0 {s : Sg} {v2 v3 : Int32} (h : Cx s v2 v3) : (s.1 1 0).toInt ≤ 8 := h.2.2.2.2.2.1
theorem Cx.c1 {s : Sg} {v2 v3 : Int32} (h : Cx s v2 v3) : (s.1 1 1).toInt ≤ 8 := h.2.2.2.2.2.2.1
theorem Cx.c3 {s : Sg} {v2 v3 : Int32} (h : Cx s v2 v3) : (s.1 1 3).toInt ≤ 8 := h.2.2.2.2.2.2.2
theorem cx_w {s : Sg} {v2 v3 : Int32} (h : Cx s v2 v3) (p : Nat) (v : Int32) (hp : v3.toInt ≤ (p : Int)) : Cx (pI s 1 p v) v2 v3 := by
  have w : ∀ i, ¬ i = p → (pI s 1 p v).1 1 i = s.1 1 i := fun i hi => by rw [pI_1, if_neg (fun g => hi g.2)]
  have b2 := h.h2
  have b3 := h.h3
  refine ⟨h.h2, h.h3, h.h8, by rw [w _ (by omega)]; exact h.a, ?_, by rw [w _ (by omega)]; exact h.c0, by rw [w _ (by omega)]; exact h.c1, by rw [w _ (by omega)]; exact h.c3⟩
  intro q h1 h2 h3
  rw [w 1931 (by omega)] at h3
  have u := h.hg q h1 h2 h3
  rw [h.a] at h3
  unfold RGd
  rw [w q (by omega), w (q + 1) (by omega), w (q + 3) (by omega)]
  exact u
theorem ds_152 (v1 v2 v3 v4 : Int32) (hv : v1.toInt ≤ 100) (n : Nat) : ∀ (v5 : Int32) (s : Sg), 1 ≤ v5.toInt ∧ v5.toInt ≤ 6 → Cx s v2 v3 → s.1 1 v3.toNatClampNeg = v1 → PQ (f_X12_dayStep_b152 n v1 v2 v3 v4 v5 s) (OkF Gd) := by
  induction n with
  | zero => intro v5 s _ _ _ r s' e; cases e
  | succ n ih =>
    intro v5 s h5 hc hk
    have b2 := hc.h2
    have b3 := hc.h3
    have cv := cl_nat v3
    have e1 : (1 : Int32).toInt = 1 := rfl
    have e6 : (6 : Int32).toInt = 6 := rfl
    unfold f_X12_dayStep_b152
    refine pq_if (fun c => ?_) (fun c => ?_)
    · refine pq_b (ah_k _) (fun _ s9 g9 => ?_)
      have w : ∀ i, ¬ i = 1931 → s9.1 1 i = s.1 1 i := fun i hi => by rw [g9.1, pI_1, if_neg (fun g => hi g.2)]
      have w31 : s9.1 1 1931 = v2 + 1 := by rw [g9.1, pI_1, if_pos ⟨rfl, rfl⟩, hc.a]
      have a2 : (v2 + 1).toInt = v2.toInt + 1 := i_addx v2 1 (show -2147483648 ≤ v2.toInt + 1 ∧ v2.toInt + 1 ≤ 2147483647 from by omega)
      refine pq_b (do_k v1 v3 s9 hv (by omega) (by rw [w _ (by omega)]; exact hk) (by rw [w _ (by omega)]; exact hc.c0) (by rw [w _ (by omega)]; exact hc.c1) (by rw [w _ (by omega)]; exact hc.c3)) (fun r10 s11 g11 => ?_)
      refine pq_if (fun c0 => pq_s ⟨fun _ => g11.1 c0, fun x => absurd rfl x⟩) (fun c0 => ?_)
      have o := g11.2 c0
      have k8 : s11.1 8 = s.1 8 := o.1.2.trans (g9.2.trans rfl)
      have h8 : H8 s11 := fun d => by rw [k8]; exact hc.h8 d
      have g : Gd s11 := by
        intro q h1 h2 h3
        rw [o.1.1 1931 (by omega), w31] at h3
        by_cases e : q = v3.toNatClampNeg
        · rw [e]; exact o.2
        · have u := hc.hg q h1 h2 (by rw [hc.a]; omega)
          unfold RGd
          rw [o.1.1 q (by omega), o.1.1 (q + 1) (by omega), o.1.1 (q + 3) (by omega), w q (by omega), w (q + 1) (by omega), w (q + 3) (by omega)]
          exact u
      refine pq_if (fun _ => ds_227 v1 v2 v3 s11 hc.h2 hc.h3 h8 g) (fun _ => pq_c (fun _ => pq_n (fun s23 e23 => ?_)))
      refine ds_227 v1 v2 v3 _ hc.h2 hc.h3 (fun d => ?_) (gd_k g ?_)
      · have u := h8 d
        show 0 ≤ (s23.1 8 d).toInt ∧ (s23.1 8 d).toInt ≤ 60
        rw [e23, pI_1]
        split
        · exact hc.h2
        · exact u
      · rw [e23]; rfl
    · have c' := i_nle c
      refine pq_c (fun _ => pq_n (fun s25 e25 => ?_))
      have a5 : (v5 + 1).toInt = v5.toInt + 1 := i_addx v5 1 (show -2147483648 ≤ v5.toInt + 1 ∧ v5.toInt + 1 ≤ 2147483647 from by omega)
      have p5 : (v3 + v5).toInt = v3.toInt + v5.toInt := i_addx v3 v5 (by omega)
      have c5 := cl_nat (v3 + v5)
      rw [e25]
      refine ih (v5 + 1) _ (by omega) (cx_w hc _ _ (by omega)) ?_
      rw [pI_1, if_neg (fun g => absurd g.2 (by omega))]
      exact hk
theorem ds_122 (v1 v2 v3 v4 : Int32) (hv : v1.toInt ≤ 100) (s : Sg) (hc : Cx s v2 v3) : PQ (f_X12_dayStep_b122 v1 v2 v3 v4 s) (OkF Gd) := by
  have b2 := hc.h2
  have b3 := hc.h3
  have cv := cl_nat v3
  have cx0 : ∀ v, Cx (pI s 0 23 v) v2 v3 := fun v => ⟨hc.h2, hc.h3, hc.h8, hc.a, hc.hg, hc.c0, hc.c1, hc.c3⟩
  unfold f_X12_dayStep_b122
  refine pq_if (fun _ => pq_c (fun _ => pq_n (fun s7 e7 => ?_))) (fun _ => pq_c (fun _ => pq_n (fun s7 e7 => ?_)))
  · rw [e7]
    exact ds_152 v1 v2 v3 v4 hv BIG 1 _ (by decide) (cx_w (cx0 _) _ _ (by omega)) (by rw [pI_1, if_pos ⟨rfl, rfl⟩])
  · rw [e7]
    exact ds_152 v1 v2 v3 v4 hv BIG 1 _ (by decide) (cx_w (cx0 _) _ _ (by omega)) (by rw [pI_1, if_pos ⟨rfl, rfl⟩])
theorem ds_61 (v1 v2 v3 v4 : Int32) (hv : v1.toInt ≤ 100) (s : Sg) (hc : Cx s v2 v3) : PQ (f_X12_dayStep_b61 v1 v2 v3 v4 s) (OkF Gd) := by
  have f102 : PQ (f_X12_dayStep_b102 v1 v2 v3 v4 s) (OkF Gd) := by
    unfold f_X12_dayStep_b102
    exact pq_if (fun _ => ds_122 v1 v2 v3 v4 hv s hc) (fun _ => pq_if (fun _ => fl_x 7 s (by decide)) (fun _ => ds_122 v1 v2 v3 v4 hv s hc))
  have f80 : PQ (f_X12_dayStep_b80 v1 v2 v3 v4 s) (OkF Gd) := by
    unfold f_X12_dayStep_b80
    exact pq_if (fun _ => f102) (fun _ => pq_if (fun _ => fl_x 6 s (by decide)) (fun _ => f102))
  unfold f_X12_dayStep_b61
  exact pq_if (fun _ => pq_if (fun _ => fl_x 2 s (by decide)) (fun _ => f80)) (fun _ => f80)
theorem ds_42 (v1 v2 v3 t0 : Int32) (s : Sg) (hc : Cx s v2 v3) : PQ (f_X12_dayStep_b42 v1 v2 v3 t0 s) (OkF Gd) := by
  unfold f_X12_dayStep_b42
  refine pq_if (fun c => ds_61 v1 v2 v3 t0 (by rw [c]; decide) s hc) (fun _ => pq_if (fun _ => fl_x 2 s (by decide)) (fun _ => pq_if (fun _ => fl_x 2 s (by decide)) (fun c => ds_61 v1 v2 v3 t0 ?_ s hc)))
  have c' := i_nlt c
  have e : (27 : Int32).toInt = 27 := rfl
  omega
theorem ds_p {s : Sg} (hR : Rg rM s) (h0 : 0 ≤ (s.1 1 1931).toInt) (hg : Gd s) : PQ (f_X12_dayStep s) (OkF Gd) := by
  have J : JM 0 s s := j_refl hR
  have q := rd_rows J 1931 (by decide)
  have e6 : (6 : Int32).toInt = 6 := rfl
  have e2 : (2030 : Int32).toInt = 2030 := rfl
  have m1 : (6 * (s.1 1 1931)).toInt = 6 * (s.1 1 1931).toInt := i_mulx 6 (s.1 1 1931) (show -2147483648 ≤ 6 * (s.1 1 1931).toInt ∧ 6 * (s.1 1 1931).toInt ≤ 2147483647 from by omega)
  have m2 : (2030 + (6 * (s.1 1 1931))).toInt = 2030 + (6 * (s.1 1 1931)).toInt := i_addx 2030 _ (show -2147483648 ≤ 2030 + (6 * (s.1 1 1931)).toInt ∧ 2030 + (6 * (s.1 1 1931)).toInt ≤ 2147483647 from by omega)
  have h8 : H8 s := fun d => by
    have u : 0 ≤ (s.1 8 d).toInt ∧ (s.1 8 d).toInt ≤ 59 := hR 8 d
    omega
  have cx : Cx s (s.1 1 1931) (2030 + (6 * (s.1 1 1931))) := ⟨by omega, by omega, h8, rfl, hg, (rd_cnt J 0 (by decide)).2, (rd_cnt J 1 (by decide)).2, (rd_cnt J 3 (by decide)).2⟩
  unfold f_X12_dayStep
  refine pq_b (iw_k s) (fun r1 s2 g => pq_n (fun x3 e3 => ?_))
  subst g
  subst e3
  unfold f_X12_dayStep_b37
  exact pq_if (fun _ => ds_42 _ _ _ _ _ cx) (fun _ => pq_if (fun _ => ds_42 _ _ _ _ _ cx) (fun _ => ds_42 _ _ _ _ _ cx))
theorem dy_102 {s0 : Sg} (n : Nat) : ∀ (v3 : Int32) (s : Sg), 110 ≤ v3.toInt ∧ v3.toInt ≤ 480 → (∀ k : Nat, 110 ≤ k → (k : Int) < v3.toInt → s.1 1 k = s0.1 1 (1920 + k)) → (∀ k, 480 ≤ k → s.1 1 k = s0.1 1 k) → s.1 1 11 = s0.1 1 1931 → PQ (f_X12_days_b102 n v3 s) (fun _ s9 => s9.1 1 11 = s0.1 1 1931 ∧ ∀ k : Nat, 110 ≤ k → k < 480 → s9.1 1 k = s0.1 1 (1920 + k)) := by
  induction n with
  | zero => intro v3 s _ _ _ _ r s' e; cases e
  | succ n ih =>
    intro v3 s h3 ha hb hn
    have e480 : (480 : Int32).toInt = 480 := rfl
    have e1 : (1 : Int32).toInt = 1 := rfl
    have e19 : (1920 : Int32).toInt = 1920 := rfl
    unfold f_X12_days_b102
    refine pq_if (fun c => pq_b (tk_p _ s) (fun r s2 g => pq_s ⟨by rw [g.1]; exact hn, fun k h1 h2 => ?_⟩)) (fun c => ?_)
    · have c' := i_le c
      rw [g.1]
      exact ha k h1 (by omega)
    · have c' := i_nle c
      refine pq_c (fun _ => pq_c (fun _ => pq_n (fun s6 e6 => ?_)))
      have a3 : (v3 + 1).toInt = v3.toInt + 1 := i_addx v3 1 (show -2147483648 ≤ v3.toInt + 1 ∧ v3.toInt + 1 ≤ 2147483647 from by omega)
      have p1 : (1920 + v3).toInt = 1920 + v3.toInt := i_addx 1920 v3 (show -2147483648 ≤ 1920 + v3.toInt ∧ 1920 + v3.toInt ≤ 2147483647 from by omega)
      have c3 := cl_nat v3
      have k1 := cl_nat (1920 + v3)
      have d : (1920 + v3).toNatClampNeg = 1920 + v3.toNatClampNeg := by omega
      subst e6
      refine ih (v3 + 1) _ (by omega) (fun k h1 h2 => ?_) (fun k h1 => ?_) ?_
      · by_cases q : k = v3.toNatClampNeg
        · rw [pI_1, if_pos ⟨rfl, q⟩, d, q]
          exact hb _ (by omega)
        · rw [pI_1, if_neg (fun g => q g.2)]
          exact ha k h1 (by omega)
      · rw [pI_1, if_neg (fun g => absurd g.2 (by omega))]
        exact hb k h1
      · rw [pI_1, if_neg (fun g => absurd g.2 (by omega))]
        exact hn
theorem dy_77 (s : Sg) (h : s.1 0 18 = 0 → Gd s) (hR : (s.1 1 1931).toInt ≤ 60) : PQ (f_X12_days_b77 s) (fun _ s9 => RowB 0 s9 ∨ s9.1 1 = s.1 1) := by
  unfold f_X12_days_b77
  refine pq_if (fun c => ?_) (fun _ => pq_b (tk_p _ s) (fun r s2 g => pq_s (Or.inr g.1)))
  refine pq_w (dy_102 (s0 := s) BIG 110 (pI s 1 11 (s.1 1 1931)) (by decide) (fun k h1 h2 => ?_) (fun k h1 => ?_) ?_) (fun _ s9 w => Or.inl ?_)
  · have e : (110 : Int32).toInt = 110 := rfl
    omega
  · rw [pI_1, if_neg (fun g => absurd g.2 (by omega))]
  · rw [pI_1, if_pos ⟨rfl, rfl⟩]
  · intro p h1 h2 h3
    rw [Nat.zero_add] at h3 ⊢
    rw [w.1] at h3
    have u := h c (1920 + p) (by omega) (by omega) (by omega)
    rw [w.2 p h1 (by omega), w.2 (p + 1) (by omega) (by omega), w.2 (p + 3) (by omega) (by omega)]
    exact u
theorem dy_57 (s : Sg) (h : s.1 0 18 = 0 → Gd s) (hR : (s.1 1 1931).toInt ≤ 60) : PQ (f_X12_days_b57 s) (fun _ s9 => RowB 0 s9 ∨ s9.1 1 = s.1 1) := by
  unfold f_X12_days_b57
  refine pq_if (fun _ => pq_if (fun _ => dy_77 s h hR) (fun _ => pq_b (fl_k 2 s (by decide)) (fun r s2 g => ?_))) (fun _ => dy_77 s h hR)
  refine pq_w (dy_77 s2 (fun w => absurd w g.2.1) (by rw [g.2.2.1]; exact hR)) (fun _ s9 w => w.elim Or.inl (fun w => Or.inr (w.trans g.2.2.1)))
theorem dy_38 (n : Nat) : ∀ (v2 : Int32) (s : Sg), Rg rM s → (¬ v2 = 0 → (0 ≤ (s.1 1 1931).toInt ∧ (s.1 1 1931).toInt + (s.1 0 22).toInt ≤ 2 * (s.1 0 23).toInt) ∧ Gd s) → (v2 = 0 → ¬ s.1 0 18 = 0) → PQ (f_X12_days_b38 n v2 s) (fun _ s9 => RowB 0 s9 ∨ ∀ p, p < 480 → s9.1 1 p = s.1 1 p) := by
  induction n with
  | zero => intro v2 s _ _ _ r s' e; cases e
  | succ n ih =>
    intro v2 s hR h1 h0
    have q := rd_rows (L := 0) (j_refl hR) 1931 (by decide)
    have fin : (s.1 0 18 = 0 → Gd s) → PQ (f_X12_days_b57 s) (fun _ s9 => RowB 0 s9 ∨ ∀ p, p < 480 → s9.1 1 p = s.1 1 p) := fun w => pq_w (dy_57 s w q.2) (fun _ s9 w => w.elim Or.inl (fun e => Or.inr (fun p _ => by rw [e])))
    unfold f_X12_days_b38
    refine pq_if (fun c => fin (fun w => absurd w (h0 c))) (fun c => pq_if (fun _ => fin (fun _ => (h1 c).2)) (fun _ => ?_))
    have x := (h1 c).1
    refine pq_b (pq_o (oq_p (h_X12_dayStep hR x) (ds_p hR x.1 (h1 c).2))) (fun r s2 g => ?_)
    refine pq_w (ih r s2 g.1.1.1 (fun w => ⟨?_, g.2.2 w⟩) g.2.1) (fun _ s9 w => w.elim Or.inl (fun w => Or.inr (fun p hp => ?_)))
    · have w' := i_ne w
      have e0 : (0 : Int32).toInt = 0 := rfl
      have u := g.1.2.1.2
      omega
    · exact (w p hp).trans (j_lo g.1.1 (by decide) p hp)
theorem days_q (a1 : Int32) {s : Sg} (hR : Rg rM s) : PQ (f_X12_days a1 s) (fun _ s9 => RowB 0 s9 ∨ ∀ p, p < 480 → s9.1 1 p = s.1 1 p) := by
  unfold f_X12_days
  refine pq_b (pq_o (h_X12_begins a1 300 hR (by decide))) (fun r s2 g => ?_)
  have q2 : s2.1 1 = s.1 1 := j_c1 g.1 (by decide)
  refine pq_if (fun _ => ?_) (fun _ => pq_n (fun s5 e5 => ?_))
  · exact pq_b (rf_p 1 s2) (fun r4 s4 g4 => pq_s (Or.inr (fun p _ => by rw [g4.1, q2])))
  · have R5 : Rg rM s5 := by
      rw [e5]
      exact (show JM 2475880078570773743937781760 s2 (pI (pI (pI s2 1 1931 0) 0 22 0) 0 23 0) from j_wr 0 30 (j_wr 0 3 (j_wm (j_refl g.1.1) (rz_rows (by decide) (by decide)) rfl) rfl 42 rfl rfl (by decide)) rfl 43 rfl rfl (by decide)).1
    have z : s5.1 1 1931 = 0 := by
      rw [e5]
      show (pI s2 1 1931 0).1 1 1931 = 0
      rw [pI_1, if_pos ⟨rfl, rfl⟩]
    have z22 : s5.1 0 22 = 0 := by
      rw [e5, pI_1, if_neg (fun g => absurd g.2 (by decide)), pI_1, if_pos ⟨rfl, rfl⟩]
    have z23 : s5.1 0 23 = 0 := by
      rw [e5, pI_1, if_pos ⟨rfl, rfl⟩]
    have e0 : (0 : Int32).toInt = 0 := rfl
    refine pq_w (dy_38 BIG 1 s5 R5 (fun _ => ⟨?_, fun p h1 h2 h3 => ?_⟩) (fun w => absurd w (by decide))) (fun _ s9 w => w.elim Or.inl (fun w => Or.inr (fun p hp => ?_)))
    · rw [z, z22, z23]; decide
    · rw [z] at h3
      omega
    · rw [w p hp, e5]
      show (pI s2 1 1931 0).1 1 p = s.1 1 p
      rw [pI_1, if_neg (fun g => absurd g.2 (by omega)), q2]
theorem days_p (a1 : Int32) {s : Sg} (hR : Rg rM s) (h : InvM s) : OQ (f_X12_days a1 s) (fun _ s9 => Rg rM s9 ∧ InvM s9) := by
  refine oq_w (oq_p (h_X12_days a1 hR) (days_q a1 hR)) (fun r s9 g => ⟨g.1.1.1, ?_⟩)
  refine inv_up hR h g.1.1 (by decide) (by decide) ?_
  rcases g.2 with q | q
  · exact q
  · have r35 : 0 ≤ (s.1 0 35).toInt ∧ (s.1 0 35).toInt ≤ 3 := hR 0 35
    have h0 : RowB 0 s := h 0 (by omega)
    refine rowB_eq h0 (rr_m hR 0) (fun k hk => ?_)
    rw [Nat.zero_add]
    exact q k hk
