/-! what holds if a program returns (no safety) -/
def PQ {α : Type} (o : Option (α × Sg)) (Q : α → Sg → Prop) : Prop := ∀ r s, o = some (r, s) → Q r s
theorem pq_if {α : Type} {c : Prop} [Decidable c] {a b : Option (α × Sg)} {Q : α → Sg → Prop} (h : c → PQ a Q) (g : ¬ c → PQ b Q) : PQ (if c then a else b) Q := by
  by_cases hc : c
  · rw [if_pos hc]; exact h hc
  · rw [if_neg hc]; exact g hc
theorem pq_c {α : Type} {c : Prop} [Decidable c] {k : Option (α × Sg)} {Q : α → Sg → Prop} (h : c → PQ k Q) : PQ (ck c k) Q := by
  unfold ck
  by_cases hc : c
  · rw [if_pos hc]; exact h hc
  · rw [if_neg hc]; intro r s e; cases e
theorem pq_b {α β : Type} {o : Option (α × Sg)} {k : α → Sg → Option (β × Sg)} {Q : β → Sg → Prop} {P : α → Sg → Prop} (h : PQ o P) (g : ∀ r s, P r s → PQ (k r s) Q) : PQ (bd o k) Q := by
  cases o with
  | none => intro r s e; cases e
  | some q => exact g q.1 q.2 (h q.1 q.2 rfl)
theorem pq_n {α β : Type} {e : α} {k : α → Option (β × Sg)} {Q : β → Sg → Prop} (h : ∀ x, x = e → PQ (k x) Q) : PQ (nmx e k) Q := h e rfl
theorem pq_s {α : Type} {r : α} {s : Sg} {Q : α → Sg → Prop} (h : Q r s) : PQ (some (r, s)) Q := by
  intro r' s' e
  cases e
  exact h
theorem pq_w {α : Type} {o : Option (α × Sg)} {P Q : α → Sg → Prop} (h : PQ o P) (g : ∀ r s, P r s → Q r s) : PQ o Q := fun r s e => g r s (h r s e)
theorem pq_o {α : Type} {o : Option (α × Sg)} {P : α → Sg → Prop} (h : OQ o P) : PQ o P := by
  intro r s e
  subst e
  exact h
theorem oq_p {α : Type} {o : Option (α × Sg)} {P Q : α → Sg → Prop} (h : OQ o P) (g : PQ o Q) : OQ o (fun r s => P r s ∧ Q r s) := by
  cases o with
  | none => exact h.elim
  | some q => exact ⟨h, g q.1 q.2 rfl⟩
/-! rows of a slot -/
def RowB (b : Nat) (s : Sg) : Prop := ∀ p : Nat, 110 ≤ p → (p - 110) % 6 = 0 → (p : Int) < 110 + 6 * (s.1 1 (b + 11)).toInt → ((s.1 1 (b + p)).toInt = 19 ∨ (s.1 1 (b + p)).toInt = 20 ∨ (s.1 1 (b + p)).toInt = 21 ∨ (s.1 1 (b + p)).toInt = 2428 ∨ (s.1 1 (b + p)).toInt = 2429 → 0 ≤ (s.1 1 (b + p + 1)).toInt ∧ (s.1 1 (b + p + 1)).toInt ≤ 7) ∧ ((s.1 1 (b + p)).toInt = 20 → 0 ≤ (s.1 1 (b + p + 3)).toInt)
theorem rowB_0 {s : Sg} (h : RowB 0 s) : RowM s := by
  intro p a b c
  have q := h p a b (by rw [Nat.zero_add]; exact c)
  rw [Nat.zero_add] at q
  exact q
theorem rowB_m {s : Sg} (h : RowM s) : RowB 0 s := by
  intro p a b c
  rw [Nat.zero_add] at c ⊢
  exact h p a b c
theorem rowB_cp {s s' : Sg} {b b' : Nat} (h : RowB b s) (hr : (s.1 1 (b + 11)).toInt ≤ 60) (e : ∀ k, k < 480 → s'.1 1 (b' + k) = s.1 1 (b + k)) : RowB b' s' := by
  intro p h1 h2 h3
  rw [e 11 (by decide)] at h3
  have q := h p h1 h2 h3
  rw [Nat.add_assoc b' p 1, Nat.add_assoc b' p 3, e p (by omega), e (p + 1) (by omega), e (p + 3) (by omega), ← Nat.add_assoc, ← Nat.add_assoc]
  exact q
def InvM (s : Sg) : Prop := ∀ j : Nat, (j : Int) ≤ (s.1 0 35).toInt → RowB (480 * j) s
/-! copies -/
theorem cp_41 (v1 v2 : Int32) (n : Nat) : ∀ (v3 : Int32) (s : Sg), PQ (f_X12_copies_b41 n v1 v2 v3 s) (fun _ s9 => s9.1 = s.1) := by
  induction n with
  | zero => intro v3 s r s' e; cases e
  | succ n ih =>
    intro v3 s
    unfold f_X12_copies_b41
    refine pq_if (fun _ => pq_s rfl) (fun _ => pq_c (fun _ => pq_c (fun _ => pq_n (fun s3 e3 => ?_))))
    refine pq_w (ih (v3 + 1) s3) (fun r s9 h => ?_)
    rw [h, e3]; rfl
def CpA (s0 s : Sg) (D S : Nat) (m : Int) : Prop := (∀ k : Nat, (k : Int) < m → s.1 1 (D + k) = s0.1 1 (S + k)) ∧ (∀ p : Nat, (p < D ∨ ((D : Int) + m ≤ (p : Int))) → s.1 1 p = s0.1 1 p) ∧ (∀ k, s.1 0 k = s0.1 0 k)
theorem cpa_up {s0 s : Sg} {D S : Nat} {m : Nat} (hm : m < 480) (hd : S + 480 ≤ D ∨ D + 480 ≤ S) (h : CpA s0 s D S (m : Int)) : CpA s0 (pI s 1 (D + m) (s.1 1 (S + m))) D S ((m : Int) + 1) := by
  refine ⟨fun k hk => ?_, fun p hp => ?_, fun k => ?_⟩
  · rw [pI_1]
    by_cases q : k = m
    · rw [if_pos ⟨rfl, by omega⟩, q]
      exact h.2.1 (S + m) (by omega)
    · rw [if_neg (fun g => absurd g.2 (by omega))]
      exact h.1 k (by omega)
  · rw [pI_1, if_neg (fun g => absurd g.2 (by omega))]
    exact h.2.1 p (by omega)
  · rw [pI_1, if_neg (fun g => absurd g.1 (by decide))]
    exact h.2.2 k
theorem cp_2 {s0 : Sg} (v1 v2 : Int32) (h1 : 0 ≤ v1.toInt ∧ v1.toInt ≤ 3) (h2 : 0 ≤ v2.toInt ∧ v2.toInt ≤ 3) (hne : ¬ v1.toInt = v2.toInt) (n : Nat) : ∀ (v3 : Int32) (s : Sg), 0 ≤ v3.toInt ∧ v3.toInt ≤ 480 → CpA s0 s (480 * v2.toNatClampNeg) (480 * v1.toNatClampNeg) v3.toInt → PQ (f_X12_copies_b2 n v1 v2 v3 s) (fun _ s9 => CpA s0 s9 (480 * v2.toNatClampNeg) (480 * v1.toNatClampNeg) 480) := by
  induction n with
  | zero => intro v3 s _ _ r s' e; cases e
  | succ n ih =>
    intro v3 s h3 hc
    unfold f_X12_copies_b2
    have e480 : (480 : Int32).toInt = 480 := rfl
    have e1 : (1 : Int32).toInt = 1 := rfl
    refine pq_if (fun c => ?_) (fun c => ?_)
    · have c' := i_le c
      have q : v3.toInt = 480 := by omega
      rw [q] at hc
      refine pq_w (cp_41 v1 v2 BIG 0 s) (fun r s9 h => ?_)
      unfold CpA
      rw [h]
      exact hc
    · have c' := i_nle c
      refine pq_c (fun _ => pq_c (fun _ => pq_n (fun s6 e6 => ?_)))
      have m1 : (480 * v1).toInt = 480 * v1.toInt := i_mulx 480 v1 (show -2147483648 ≤ 480 * v1.toInt ∧ 480 * v1.toInt ≤ 2147483647 from by omega)
      have m2 : (480 * v2).toInt = 480 * v2.toInt := i_mulx 480 v2 (show -2147483648 ≤ 480 * v2.toInt ∧ 480 * v2.toInt ≤ 2147483647 from by omega)
      have p1 : ((480 * v1) + v3).toInt = (480 * v1).toInt + v3.toInt := i_addx (480 * v1) v3 (by omega)
      have p2 : ((480 * v2) + v3).toInt = (480 * v2).toInt + v3.toInt := i_addx (480 * v2) v3 (by omega)
      have a3 : (v3 + 1).toInt = v3.toInt + 1 := i_addx v3 1 (show -2147483648 ≤ v3.toInt + 1 ∧ v3.toInt + 1 ≤ 2147483647 from by omega)
      have c1 := cl_nat v1
      have c2 := cl_nat v2
      have c3 := cl_nat v3
      have k1 := cl_nat ((480 * v1) + v3)
      have k2 := cl_nat ((480 * v2) + v3)
      have d1 : ((480 * v1) + v3).toNatClampNeg = 480 * v1.toNatClampNeg + v3.toNatClampNeg := by omega
      have d2 : ((480 * v2) + v3).toNatClampNeg = 480 * v2.toNatClampNeg + v3.toNatClampNeg := by omega
      have q3 : v3.toInt = ((v3.toNatClampNeg : Nat) : Int) := by omega
      rw [q3] at hc
      have hm : v3.toNatClampNeg < 480 := by omega
      have hd : 480 * v1.toNatClampNeg + 480 ≤ 480 * v2.toNatClampNeg ∨ 480 * v2.toNatClampNeg + 480 ≤ 480 * v1.toNatClampNeg := by omega
      have u := cpa_up hm hd hc
      have q4 : (v3 + 1).toInt = ((v3.toNatClampNeg : Nat) : Int) + 1 := by omega
      refine ih (v3 + 1) s6 (by omega) ?_
      rw [e6, d1, d2, q4]
      exact u
theorem cp_all (a1 a2 : Int32) (s : Sg) (h1 : 0 ≤ a1.toInt ∧ a1.toInt ≤ 3) (h2 : 0 ≤ a2.toInt ∧ a2.toInt ≤ 3) (hne : ¬ a1.toInt = a2.toInt) : PQ (f_X12_copies a1 a2 s) (fun _ s9 => CpA s s9 (480 * a2.toNatClampNeg) (480 * a1.toNatClampNeg) 480) := by
  unfold f_X12_copies
  refine cp_2 a1 a2 h1 h2 hne BIG 0 s (by decide) ⟨fun k hk => ?_, fun p _ => rfl, fun _ => rfl⟩
  have e0 : (0 : Int32).toInt = 0 := rfl
  omega
theorem gv_p (a : Int32) (s : Sg) : PQ (f_X12_gives a s) (fun _ s9 => s9.1 1 = s.1 1 ∧ s9.1 0 35 = s.1 0 35) := by
  unfold f_X12_gives
  exact pq_s ⟨rfl, rfl⟩
theorem rf_p (a : Int32) (s : Sg) : PQ (f_X12_refuse a s) (fun _ s9 => s9.1 1 = s.1 1 ∧ s9.1 0 35 = s.1 0 35) := by
  unfold f_X12_refuse
  exact pq_s ⟨rfl, rfl⟩
theorem inv_eq {s s' : Sg} (h : InvM s) (e : s'.1 1 = s.1 1) (f : s'.1 0 35 = s.1 0 35) : InvM s' := by
  intro j hj
  rw [f] at hj
  have q := h j hj
  unfold RowB at q ⊢
  rw [e]
  exact q
theorem rowB_eq {s s' : Sg} {b : Nat} (h : RowB b s) (hr : (s.1 1 (b + 11)).toInt ≤ 60) (e : ∀ k, k < 480 → s'.1 1 (b + k) = s.1 1 (b + k)) : RowB b s' := rowB_cp h hr e
theorem mark_p {s : Sg} (hR : Rg rM s) (h : InvM s) : PQ (f_X12_mark s) (fun _ s9 => InvM s9) := by
  unfold f_X12_mark
  have r35 : 0 ≤ (s.1 0 35).toInt ∧ (s.1 0 35).toInt ≤ 3 := hR 0 35
  have rr : ∀ j : Nat, (s.1 1 (480 * j + 11)).toInt ≤ 60 := fun j => by
    have q := (hR 1 (480 * j + 11)).2
    have e : rM 1 (480 * j + 11) = (-1, 60) := rS_rows (by omega)
    rw [e] at q
    exact q
  refine pq_if (fun _ => ?_) (fun c => ?_)
  · refine pq_b (rf_p 4 s) (fun r s2 g => pq_s (inv_eq h g.1 g.2))
  · have c' := i_ne c
    have e3 : (3 : Int32).toInt = 3 := rfl
    have e1 : (1 : Int32).toInt = 1 := rfl
    have a := i_add (s.1 0 35) 1
    have u : (pI s 0 35 ((s.1 0 35) + 1)).1 0 35 = (s.1 0 35) + 1 := Int32.toInt_inj.mp u_eq
    rw [u]
    refine pq_b (cp_all 0 ((s.1 0 35) + 1) _ (by decide) (by omega) (by have e0 : (0 : Int32).toInt = 0 := rfl; omega)) (fun r s4 g => ?_)
    refine pq_b (gv_p _ s4) (fun r5 s6 g6 => pq_s (inv_eq ?_ g6.1 g6.2))
    intro j hj
    have k35 : s4.1 0 35 = (s.1 0 35) + 1 := (g.2.2 35).trans u
    rw [k35] at hj
    have cl := cl_nat ((s.1 0 35) + 1)
    have cl0 : (0 : Int32).toNatClampNeg = 0 := rfl
    have base : ∀ p, (pI s 0 35 ((s.1 0 35) + 1)).1 1 p = s.1 1 p := fun p => by rw [pI_1, if_neg (fun w => absurd w.1 (by decide))]
    by_cases q : (j : Int) = (s.1 0 35).toInt + 1
    · have ej : j = ((s.1 0 35) + 1).toNatClampNeg := by omega
      refine rowB_cp (b := 0) (s := s) (h 0 (by omega)) (rr 0) (fun k hk => ?_)
      rw [ej]
      have w := g.1 k (by omega)
      rw [cl0] at w
      rw [w, base]
    · refine rowB_cp (b := 480 * j) (s := s) (h j (by omega)) (rr j) (fun k hk => ?_)
      have w := g.2.1 (480 * j + k) (by omega)
      rw [w, base]
theorem back_p {s : Sg} (hR : Rg rM s) (h : InvM s) : PQ (f_X12_back s) (fun _ s9 => InvM s9) := by
  unfold f_X12_back
  have r35 : 0 ≤ (s.1 0 35).toInt ∧ (s.1 0 35).toInt ≤ 3 := hR 0 35
  have rr : ∀ j : Nat, (s.1 1 (480 * j + 11)).toInt ≤ 60 := fun j => by
    have q := (hR 1 (480 * j + 11)).2
    have e : rM 1 (480 * j + 11) = (-1, 60) := rS_rows (by omega)
    rw [e] at q
    exact q
  refine pq_if (fun _ => ?_) (fun c => ?_)
  · refine pq_b (rf_p 6 s) (fun r s2 g => pq_s (inv_eq h g.1 g.2))
  · have c' := i_ne c
    have e0 : (0 : Int32).toInt = 0 := rfl
    have e1 : (1 : Int32).toInt = 1 := rfl
    refine pq_b (cp_all (s.1 0 35) 0 s r35 (by decide) (by omega)) (fun r s4 g => ?_)
    refine pq_b (gv_p _ _) (fun r5 s6 g6 => pq_s (inv_eq ?_ g6.1 g6.2))
    have a := i_sub (s4.1 0 35) 1
    have k35 : s4.1 0 35 = s.1 0 35 := g.2.2 35
    have u : (pI s4 0 35 ((s4.1 0 35) - 1)).1 0 35 = (s4.1 0 35) - 1 := Int32.toInt_inj.mp u_eq
    have base : ∀ p, (pI s4 0 35 ((s4.1 0 35) - 1)).1 1 p = s4.1 1 p := fun p => by rw [pI_1, if_neg (fun w => absurd w.1 (by decide))]
    have cl := cl_nat (s.1 0 35)
    have cl0 : (0 : Int32).toNatClampNeg = 0 := rfl
    intro j hj
    rw [u] at hj
    rw [k35] at hj a
    by_cases q : j = 0
    · subst q
      refine rowB_cp (b := 480 * (s.1 0 35).toNatClampNeg) (s := s) (h _ (by omega)) (rr _) (fun k hk => ?_)
      have w := g.1 k (by omega)
      rw [cl0] at w
      rw [base, w]
    · refine rowB_cp (b := 480 * j) (s := s) (h j (by omega)) (rr j) (fun k hk => ?_)
      have w := g.2.1 (480 * j + k) (by omega)
      rw [base, w]
