/-! texts: programs behind programs -/
theorem bd_bd {α β γ : Type} (o : Option (α × Sg)) (k : α → Sg → Option (β × Sg)) (K : β → Sg → Option (γ × Sg)) : bd (bd o k) K = bd o (fun r s => bd (k r s) K) := by
  cases o with
  | none => rfl
  | some q => rfl
theorem bd_if {α β : Type} (c : Prop) [Decidable c] (a b : Option (α × Sg)) (K : α → Sg → Option (β × Sg)) : bd (if c then a else b) K = if c then bd a K else bd b K := by
  by_cases h : c
  · rw [if_pos h, if_pos h]
  · rw [if_neg h, if_neg h]
theorem bd_ck {α β : Type} (c : Prop) [Decidable c] (a : Option (α × Sg)) (K : α → Sg → Option (β × Sg)) : bd (ck c a) K = ck c (bd a K) := by
  unfold ck
  by_cases h : c
  · rw [if_pos h, if_pos h]
  · rw [if_neg h, if_neg h]
    rfl
theorem bd_so {α β : Type} (r : α) (s : Sg) (K : α → Sg → Option (β × Sg)) : bd (some (r, s)) K = K r s := rfl
/-- what fails goes through -/
def K0 (K : Int32 → Sg → Option (Int32 × Sg)) : Prop := ∀ t, K 0 t = some (0, t)
theorem og_k {G H : Sg → Sg → Prop} {r : Int32} {s : Sg} {r' : Int32} {t : Sg} {A B : Option (Int32 × Sg)} {K : Int32 → Sg → Option (Int32 × Sg)} (hK : K0 K) (g : Og G r s r' t) (h : G s t → RQ A (bd B K) (Og H)) : RQ (if r = 0 then some (0, s) else A) (bd (if r' = 0 then some (0, t) else B) K) (Og H) := by
  rcases g with ⟨e, e', g⟩ | ⟨e, e', g⟩ <;> subst e <;> subst e'
  · rw [if_neg (by decide), if_neg (by decide)]
    exact h g
  · rw [if_pos rfl, if_pos rfl]
    show RQ _ (K 0 t) _
    rw [hK t]
    exact rq_s (Or.inr ⟨rfl, rfl, g⟩)
theorem og_fk {n : Nat} {sC sM : Sg} {H : Sg → Sg → Prop} {K : Int32 → Sg → Option (Int32 × Sg)} (hK : K0 K) (h : TkRel n sC sM) (h0 : sM.1 0 18 = 0) (a : Int32) (ha : 0 < a.toInt) : RQ (bd (f_X7_wrong a sC) (fun r s => ck (r = 0 ∨ r = 1) (some (r, s)))) (bd (bd (f_X12_fails a sM) (fun r t => ck (r = 0 ∨ r = 1) (some (r, t)))) K) (Og H) := by
  rw [bd_bd]
  refine rq_b2 (fails_r h h0 a ha) (fun r s r' t g => ?_)
  obtain ⟨e, e', g⟩ := g
  subst e; subst e'
  rw [bd_ck]
  refine rq_cC (fun _ => rq_cM (fun _ => ?_))
  show RQ _ (K 0 t) _
  rw [hK t]
  exact rq_s (Or.inr ⟨rfl, rfl, g⟩)
/-- after a part: all is related again, and the text went on -/
def SR (n : Nat) (sC sM : Sg) : Prop := SB n sC sM ∧ PlanS 0 sC sM ∧ GrS sC sM ∧ NmS sC sM
def PaT (n : Nat) (sC sM s t : Sg) : Prop := SR n s t ∧ (sC.1 7 2).toInt ≤ (s.1 7 4).toInt
theorem sg_K0 : K0 f_X12_streetPart_b102 := fun t => by
  unfold f_X12_streetPart_b102
  rw [if_pos rfl]
/-- the sign behind a part -/
theorem semi_r {n : Nat} {sC sM s0 : Sg} (h : SR n sC sM) (hp : (s0.1 7 2).toInt ≤ (sC.1 7 4).toInt) : RQ (bd (f_X7_pass 59 sC) (fun r s => ck (r = 0 ∨ r = 1) (some (r, s)))) (f_X12_streetPart_b102 1 sM) (Og (PaT n s0 sM)) := by
  unfold f_X12_streetPart_b102
  rw [if_neg (show ¬ (1 : Int32) = 0 by decide)]
  refine rq_b2 (pass_s h.1.1 h.1.2.1 59 (Or.inl rfl)) (fun r s r' t g => ?_)
  rcases g with ⟨e, e', w⟩ | ⟨e, e', g⟩ <;> subst e <;> subst e'
  · rw [if_neg (by decide)]
    have kp := kp_of w
    have p1 := tk_pos h.1.1
    have p2 := w.2.2.2
    exact rq_cC (fun _ => rq_s (Or.inl ⟨rfl, rfl, ⟨kp_sb w h.1, kp_pl kp h.2.1, kp_gr kp h.2.2.1, kp_nm kp h.2.2.2⟩, by omega⟩))
  · rw [if_pos rfl]
    exact rq_cC (fun _ => rq_s (Or.inr ⟨rfl, rfl, g⟩))
/-- the pending name is counted -/
theorem nm_done {q : Nat} (hq : q < 4) {sC sM : Sg} (h : NmP q sC sM) {mM : Nat → Int32} (hb : ∀ x, x < 4 → cnN sM x ≤ 8 ∧ (2 ≤ x → cnN sM x ≤ 4)) {cnt' : Nat → Nat} (e : cnt' q = cnN sM q + 1 ∧ ∀ x, ¬ x = q → cnt' x = cnN sM x) : ∃ N : Nat, (sC.1 52 12).toInt = (N : Int) ∧ NmR (sC.2 55) (sC.1 56) (sC.1 57) N (nmN sM) cnt' := by
  obtain ⟨N, b, h1, h2, h3, ⟨h4, h5⟩, ⟨h6, h7⟩, h8, h9⟩ := h
  exact ⟨N + 1, by omega, nm_add h3 h7 hq hb h9 h8 ⟨rfl, fun _ _ => rfl⟩ ⟨h4, fun _ _ => rfl⟩ ⟨h5, fun _ _ => rfl⟩ ⟨h6, fun _ _ _ => rfl⟩ e⟩
