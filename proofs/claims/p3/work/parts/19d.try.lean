/-! trays -/
def LaidC (t : Nat) (a2 a3 : Int32) (s s9 : Sg) : Prop := (s9.1 (10 + t) 1 = 1 ∧ s9.1 (10 + t) 2 = a2 ∧ s9.1 (10 + t) 3 = a3 ∧ ∀ k, k < 60 → s9.2 (14 + t) k = 0) ∧ ∀ u, u < 4 → ¬ u = t → (s9.1 (10 + u) = s.1 (10 + u) ∧ s9.2 (14 + u) = s.2 (14 + u))
def KeptC (s s9 : Sg) : Prop := ∀ u, u < 4 → (s9.1 (10 + u) = s.1 (10 + u) ∧ s9.2 (14 + u) = s.2 (14 + u))
def LaidM (t : Nat) (a2 a3 : Int32) (s s9 : Sg) : Prop := (s9.1 3 t = a2 ∧ s9.1 4 t = a3 ∧ ∀ k : Nat, (k : Int) < a3.toInt → s9.2 5 (60 * t + k) = 0) ∧ ∀ u, u < 4 → ¬ u = t → (s9.1 3 u = s.1 3 u ∧ s9.1 4 u = s.1 4 u ∧ ∀ k, k < 60 → s9.2 5 (60 * u + k) = s.2 5 (60 * u + k))
def KeptM (s s9 : Sg) : Prop := s9.1 3 = s.1 3 ∧ s9.1 4 = s.1 4 ∧ s9.2 5 = s.2 5
def TrR (t : Nat) (sC sM : Sg) : Prop := (sC.1 (10 + t) 1 = 0 ∧ sM.1 4 t = -1) ∨ (¬ sC.1 (10 + t) 1 = 0 ∧ sM.1 4 t = sC.1 (10 + t) 3 ∧ sM.1 3 t = sC.1 (10 + t) 2 ∧ (0 ≤ (sC.1 (10 + t) 3).toInt ∧ (sC.1 (10 + t) 3).toInt ≤ 60) ∧ ∀ k : Nat, (k : Int) < (sC.1 (10 + t) 3).toInt → sM.2 5 (60 * t + k) = sC.2 (14 + t) k)
theorem tr_kept {t : Nat} {sC sM sC9 sM9 : Sg} (ht : t < 4) (h : TrR t sC sM) (gc : KeptC sC sC9) (gm : KeptM sM sM9) : TrR t sC9 sM9 := by
  unfold TrR
  rw [(gc t ht).1, (gc t ht).2, gm.1, gm.2.1, gm.2.2]
  exact h
theorem tr_laid {t a : Nat} {a2 a3 : Int32} {sC sM sC9 sM9 : Sg} (ht : t < 4) (h : TrR t sC sM) (gc : LaidC a a2 a3 sC sC9) (gm : LaidM a a2 a3 sM sM9) (h3 : 0 ≤ a3.toInt ∧ a3.toInt ≤ 60) : TrR t sC9 sM9 := by
  by_cases q : t = a
  · subst q
    refine Or.inr ⟨?_, ?_, ?_, ?_, fun k hk => ?_⟩
    · rw [gc.1.1]; decide
    · rw [gm.1.2.1, gc.1.2.2.1]
    · rw [gm.1.1, gc.1.2.1]
    · rw [gc.1.2.2.1]; exact h3
    · rw [gc.1.2.2.1] at hk
      rw [gm.1.2.2 k hk, gc.1.2.2.2 k (by omega)]
  · have c := gc.2 t ht q
    have m := gm.2 t ht q
    rcases h with g | g
    · exact Or.inl ⟨by rw [c.1]; exact g.1, by rw [m.2.1]; exact g.2⟩
    · refine Or.inr ⟨by rw [c.1]; exact g.1, by rw [c.1, m.2.1]; exact g.2.1, by rw [c.1, m.1]; exact g.2.2.1, by rw [c.1]; exact g.2.2.2.1, fun k hk => ?_⟩
      rw [c.1] at hk
      have l := g.2.2.2.1.2
      rw [m.2.2 k (by omega), c.2]
      exact g.2.2.2.2 k hk
theorem u4 {P : Nat → Prop} (h0 : P 0) (h1 : P 1) (h2 : P 2) (h3 : P 3) : ∀ u, u < 4 → P u := by
  intro u hu
  have : u = 0 ∨ u = 1 ∨ u = 2 ∨ u = 3 := by omega
  rcases this with e | e | e | e <;> subst e <;> assumption
theorem p_ne1 {s : Sg} {c c' k : Nat} {v : Int32} (h : Nat.beq c' c = false) : (pI s c k v).1 c' = s.1 c' := by
  funext k'
  exact q_nc h
theorem l_ne2 {s : Sg} {c c' k : Nat} {v : Int64} (h : Nat.beq c' c = false) : (pL s c k v).2 c' = s.2 c' := by
  funext k'
  rw [pL_2, if_neg]
  rintro ⟨e, f⟩
  subst e
  simp at h
theorem b_ne2 {s : Sg} {c c' : Nat} {f : Nat → Int64} (h : Nat.beq c' c = false) : (pB s c f).2 c' = s.2 c' := by
  funext k'
  rw [pB_2, if_neg]
  rintro e
  subst e
  simp at h
theorem b_eq2 {s : Sg} {c : Nat} {f : Nat → Int64} : (pB s c f).2 c = f := by
  funext k'
  rw [pB_2, if_pos rfl]
theorem kc_st (s : Sg) (k : Nat) (v : Int32) : KeptC s (pI s 0 k v) := u4 ⟨p_ne1 rfl, rfl⟩ ⟨p_ne1 rfl, rfl⟩ ⟨p_ne1 rfl, rfl⟩ ⟨p_ne1 rfl, rfl⟩
theorem kc_r (s : Sg) : KeptC s s := fun _ _ => ⟨rfl, rfl⟩
theorem km_st (s : Sg) (k : Nat) (v : Int32) : KeptM s (pI s 0 k v) := ⟨p_ne1 rfl, p_ne1 rfl, rfl⟩
theorem km_r (s : Sg) : KeptM s s := ⟨rfl, rfl, rfl⟩
theorem lc_st {t : Nat} {a2 a3 : Int32} {s s9 : Sg} (h : LaidC t a2 a3 s s9) (ht : t < 4) (k : Nat) (v : Int32) : LaidC t a2 a3 s (pI s9 0 k v) := by
  have g := kc_st s9 k v
  refine ⟨?_, fun u hu hn => ?_⟩
  · rw [(g t ht).1, (g t ht).2]; exact h.1
  · rw [(g u hu).1, (g u hu).2]; exact h.2 u hu hn
theorem rd_k (a : Int32) (s : Sg) : PQ (f_X11_refused a s) (fun r s9 => r = 0 ∧ KeptC s s9) := by
  unfold f_X11_refused
  exact pq_s ⟨rfl, kc_st s 15 a⟩
theorem rd_x {P : Prop} {t : Nat} {a2 a3 : Int32} {s0 : Sg} (hp : ¬ P) (a : Int32) : PQ (bd (f_X11_refused a s0) (fun r s => ck (r = 0 ∨ r = 1) (some (r, s)))) (fun _ s9 => (P ∧ LaidC t a2 a3 s0 s9) ∨ (¬ P ∧ KeptC s0 s9)) := pq_b (rd_k a s0) (fun _ _ g => pq_c (fun _ => pq_s (Or.inr ⟨hp, g.2⟩)))
theorem lay_b0 (n : Nat) : ∀ (v3 : Int32) (s : Sg), 0 ≤ v3.toInt → v3.toInt ≤ 60 → PQ (f_X8_lay_10_b17 n v3 s) (fun _ s9 => s9.1 = s.1 ∧ (∀ c, ¬ c = 14 + 0 → s9.2 c = s.2 c) ∧ (∀ k : Nat, v3.toInt ≤ (k : Int) → k < 60 → s9.2 (14 + 0) k = 0) ∧ (∀ k : Nat, (k : Int) < v3.toInt → s9.2 (14 + 0) k = s.2 (14 + 0) k)) := by
  induction n with
  | zero => intro v3 s _ _ r s9 e; cases e
  | succ n ih =>
    intro v3 s h0 h6
    have e60 : (60 : Int32).toInt = 60 := rfl
    have e1 : (1 : Int32).toInt = 1 := rfl
    unfold f_X8_lay_10_b17
    refine pq_if (fun c => pq_s ⟨rfl, fun _ _ => rfl, fun k k1 k2 => ?_, fun _ _ => rfl⟩) (fun c => pq_c (fun _ => ?_))
    · have := i_le c
      omega
    · have c := i_nle c
      have a1 : (v3 + 1).toInt = v3.toInt + 1 := i_addx v3 1 (show -2147483648 ≤ v3.toInt + 1 ∧ v3.toInt + 1 ≤ 2147483647 from by omega)
      have cl := cl_nat v3
      refine pq_w (ih (v3 + 1) _ (by omega) (by omega)) (fun _ s9 g => ⟨g.1, fun x hx => ?_, fun k k1 k2 => ?_, fun k k1 => ?_⟩)
      · rw [g.2.1 x hx]
        funext k
        rw [pL_2, if_neg (fun w => hx w.1)]
      · by_cases q : (k : Int) = v3.toInt
        · rw [g.2.2.2 k (by omega), pL_2, if_pos ⟨rfl, by omega⟩]
        · exact g.2.2.1 k (by omega) k2
      · rw [g.2.2.2 k (by omega), pL_2, if_neg (fun w => absurd w.2 (by omega))]
theorem lay_0 (a1 a2 : Int32) (s : Sg) : PQ (f_X8_lay_10 a1 a2 s) (fun _ s9 => LaidC 0 a1 a2 s s9) := by
  unfold f_X8_lay_10
  refine pq_n (fun s1 e1 => pq_w (lay_b0 BIG 0 s1 (by decide) (by decide)) (fun _ s9 g => ⟨⟨?_, ?_, ?_, fun k hk => ?_⟩, ?_⟩))
  · show s9.1 10 1 = 1
    rw [g.1, e1, q_ne rfl, q_ne rfl, q_eq]
  · show s9.1 10 2 = a1
    rw [g.1, e1, q_ne rfl, q_eq]
  · show s9.1 10 3 = a2
    rw [g.1, e1, q_eq]
  · refine g.2.2.1 k ?_ hk
    have e0 : (0 : Int32).toInt = 0 := rfl
    omega
  · refine u4 ?_ ?_ ?_ ?_
    · exact fun w => absurd rfl w
    · refine fun _ => ⟨?_, ?_⟩
      · show s9.1 11 = s.1 11
        rw [g.1, e1, p_ne1 rfl, p_ne1 rfl, p_ne1 rfl]
      · rw [g.2.1 (14 + 1) (by decide), e1]; rfl
    · refine fun _ => ⟨?_, ?_⟩
      · show s9.1 12 = s.1 12
        rw [g.1, e1, p_ne1 rfl, p_ne1 rfl, p_ne1 rfl]
      · rw [g.2.1 (14 + 2) (by decide), e1]; rfl
    · refine fun _ => ⟨?_, ?_⟩
      · show s9.1 13 = s.1 13
        rw [g.1, e1, p_ne1 rfl, p_ne1 rfl, p_ne1 rfl]
      · rw [g.2.1 (14 + 3) (by decide), e1]; rfl
theorem lay_b1 (n : Nat) : ∀ (v3 : Int32) (s : Sg), 0 ≤ v3.toInt → v3.toInt ≤ 60 → PQ (f_X8_lay_11_b17 n v3 s) (fun _ s9 => s9.1 = s.1 ∧ (∀ c, ¬ c = 14 + 1 → s9.2 c = s.2 c) ∧ (∀ k : Nat, v3.toInt ≤ (k : Int) → k < 60 → s9.2 (14 + 1) k = 0) ∧ (∀ k : Nat, (k : Int) < v3.toInt → s9.2 (14 + 1) k = s.2 (14 + 1) k)) := by
  induction n with
  | zero => intro v3 s _ _ r s9 e; cases e
  | succ n ih =>
    intro v3 s h0 h6
    have e60 : (60 : Int32).toInt = 60 := rfl
    have e1 : (1 : Int32).toInt = 1 := rfl
    unfold f_X8_lay_11_b17
    refine pq_if (fun c => pq_s ⟨rfl, fun _ _ => rfl, fun k k1 k2 => ?_, fun _ _ => rfl⟩) (fun c => pq_c (fun _ => ?_))
    · have := i_le c
      omega
    · have c := i_nle c
      have a1 : (v3 + 1).toInt = v3.toInt + 1 := i_addx v3 1 (show -2147483648 ≤ v3.toInt + 1 ∧ v3.toInt + 1 ≤ 2147483647 from by omega)
      have cl := cl_nat v3
      refine pq_w (ih (v3 + 1) _ (by omega) (by omega)) (fun _ s9 g => ⟨g.1, fun x hx => ?_, fun k k1 k2 => ?_, fun k k1 => ?_⟩)
      · rw [g.2.1 x hx]
        funext k
        rw [pL_2, if_neg (fun w => hx w.1)]
      · by_cases q : (k : Int) = v3.toInt
        · rw [g.2.2.2 k (by omega), pL_2, if_pos ⟨rfl, by omega⟩]
        · exact g.2.2.1 k (by omega) k2
      · rw [g.2.2.2 k (by omega), pL_2, if_neg (fun w => absurd w.2 (by omega))]
theorem lay_1 (a1 a2 : Int32) (s : Sg) : PQ (f_X8_lay_11 a1 a2 s) (fun _ s9 => LaidC 1 a1 a2 s s9) := by
  unfold f_X8_lay_11
  refine pq_n (fun s1 e1 => pq_w (lay_b1 BIG 0 s1 (by decide) (by decide)) (fun _ s9 g => ⟨⟨?_, ?_, ?_, fun k hk => ?_⟩, ?_⟩))
  · show s9.1 11 1 = 1
    rw [g.1, e1, q_ne rfl, q_ne rfl, q_eq]
  · show s9.1 11 2 = a1
    rw [g.1, e1, q_ne rfl, q_eq]
  · show s9.1 11 3 = a2
    rw [g.1, e1, q_eq]
  · refine g.2.2.1 k ?_ hk
    have e0 : (0 : Int32).toInt = 0 := rfl
    omega
  · refine u4 ?_ ?_ ?_ ?_
    · refine fun _ => ⟨?_, ?_⟩
      · show s9.1 10 = s.1 10
        rw [g.1, e1, p_ne1 rfl, p_ne1 rfl, p_ne1 rfl]
      · rw [g.2.1 (14 + 0) (by decide), e1]; rfl
    · exact fun w => absurd rfl w
    · refine fun _ => ⟨?_, ?_⟩
      · show s9.1 12 = s.1 12
        rw [g.1, e1, p_ne1 rfl, p_ne1 rfl, p_ne1 rfl]
      · rw [g.2.1 (14 + 2) (by decide), e1]; rfl
    · refine fun _ => ⟨?_, ?_⟩
      · show s9.1 13 = s.1 13
        rw [g.1, e1, p_ne1 rfl, p_ne1 rfl, p_ne1 rfl]
      · rw [g.2.1 (14 + 3) (by decide), e1]; rfl
theorem lay_b2 (n : Nat) : ∀ (v3 : Int32) (s : Sg), 0 ≤ v3.toInt → v3.toInt ≤ 60 → PQ (f_X8_lay_12_b17 n v3 s) (fun _ s9 => s9.1 = s.1 ∧ (∀ c, ¬ c = 14 + 2 → s9.2 c = s.2 c) ∧ (∀ k : Nat, v3.toInt ≤ (k : Int) → k < 60 → s9.2 (14 + 2) k = 0) ∧ (∀ k : Nat, (k : Int) < v3.toInt → s9.2 (14 + 2) k = s.2 (14 + 2) k)) := by
  induction n with
  | zero => intro v3 s _ _ r s9 e; cases e
  | succ n ih =>
    intro v3 s h0 h6
    have e60 : (60 : Int32).toInt = 60 := rfl
    have e1 : (1 : Int32).toInt = 1 := rfl
    unfold f_X8_lay_12_b17
    refine pq_if (fun c => pq_s ⟨rfl, fun _ _ => rfl, fun k k1 k2 => ?_, fun _ _ => rfl⟩) (fun c => pq_c (fun _ => ?_))
    · have := i_le c
      omega
    · have c := i_nle c
      have a1 : (v3 + 1).toInt = v3.toInt + 1 := i_addx v3 1 (show -2147483648 ≤ v3.toInt + 1 ∧ v3.toInt + 1 ≤ 2147483647 from by omega)
      have cl := cl_nat v3
      refine pq_w (ih (v3 + 1) _ (by omega) (by omega)) (fun _ s9 g => ⟨g.1, fun x hx => ?_, fun k k1 k2 => ?_, fun k k1 => ?_⟩)
      · rw [g.2.1 x hx]
        funext k
        rw [pL_2, if_neg (fun w => hx w.1)]
      · by_cases q : (k : Int) = v3.toInt
        · rw [g.2.2.2 k (by omega), pL_2, if_pos ⟨rfl, by omega⟩]
        · exact g.2.2.1 k (by omega) k2
      · rw [g.2.2.2 k (by omega), pL_2, if_neg (fun w => absurd w.2 (by omega))]
theorem lay_2 (a1 a2 : Int32) (s : Sg) : PQ (f_X8_lay_12 a1 a2 s) (fun _ s9 => LaidC 2 a1 a2 s s9) := by
  unfold f_X8_lay_12
  refine pq_n (fun s1 e1 => pq_w (lay_b2 BIG 0 s1 (by decide) (by decide)) (fun _ s9 g => ⟨⟨?_, ?_, ?_, fun k hk => ?_⟩, ?_⟩))
  · show s9.1 12 1 = 1
    rw [g.1, e1, q_ne rfl, q_ne rfl, q_eq]
  · show s9.1 12 2 = a1
    rw [g.1, e1, q_ne rfl, q_eq]
  · show s9.1 12 3 = a2
    rw [g.1, e1, q_eq]
  · refine g.2.2.1 k ?_ hk
    have e0 : (0 : Int32).toInt = 0 := rfl
    omega
  · refine u4 ?_ ?_ ?_ ?_
    · refine fun _ => ⟨?_, ?_⟩
      · show s9.1 10 = s.1 10
        rw [g.1, e1, p_ne1 rfl, p_ne1 rfl, p_ne1 rfl]
      · rw [g.2.1 (14 + 0) (by decide), e1]; rfl
    · refine fun _ => ⟨?_, ?_⟩
      · show s9.1 11 = s.1 11
        rw [g.1, e1, p_ne1 rfl, p_ne1 rfl, p_ne1 rfl]
      · rw [g.2.1 (14 + 1) (by decide), e1]; rfl
    · exact fun w => absurd rfl w
    · refine fun _ => ⟨?_, ?_⟩
      · show s9.1 13 = s.1 13
        rw [g.1, e1, p_ne1 rfl, p_ne1 rfl, p_ne1 rfl]
      · rw [g.2.1 (14 + 3) (by decide), e1]; rfl
theorem lay_b3 (n : Nat) : ∀ (v3 : Int32) (s : Sg), 0 ≤ v3.toInt → v3.toInt ≤ 60 → PQ (f_X8_lay_13_b17 n v3 s) (fun _ s9 => s9.1 = s.1 ∧ (∀ c, ¬ c = 14 + 3 → s9.2 c = s.2 c) ∧ (∀ k : Nat, v3.toInt ≤ (k : Int) → k < 60 → s9.2 (14 + 3) k = 0) ∧ (∀ k : Nat, (k : Int) < v3.toInt → s9.2 (14 + 3) k = s.2 (14 + 3) k)) := by
  induction n with
  | zero => intro v3 s _ _ r s9 e; cases e
  | succ n ih =>
    intro v3 s h0 h6
    have e60 : (60 : Int32).toInt = 60 := rfl
    have e1 : (1 : Int32).toInt = 1 := rfl
    unfold f_X8_lay_13_b17
    refine pq_if (fun c => pq_s ⟨rfl, fun _ _ => rfl, fun k k1 k2 => ?_, fun _ _ => rfl⟩) (fun c => pq_c (fun _ => ?_))
    · have := i_le c
      omega
    · have c := i_nle c
      have a1 : (v3 + 1).toInt = v3.toInt + 1 := i_addx v3 1 (show -2147483648 ≤ v3.toInt + 1 ∧ v3.toInt + 1 ≤ 2147483647 from by omega)
      have cl := cl_nat v3
      refine pq_w (ih (v3 + 1) _ (by omega) (by omega)) (fun _ s9 g => ⟨g.1, fun x hx => ?_, fun k k1 k2 => ?_, fun k k1 => ?_⟩)
      · rw [g.2.1 x hx]
        funext k
        rw [pL_2, if_neg (fun w => hx w.1)]
      · by_cases q : (k : Int) = v3.toInt
        · rw [g.2.2.2 k (by omega), pL_2, if_pos ⟨rfl, by omega⟩]
        · exact g.2.2.1 k (by omega) k2
      · rw [g.2.2.2 k (by omega), pL_2, if_neg (fun w => absurd w.2 (by omega))]
theorem lay_3 (a1 a2 : Int32) (s : Sg) : PQ (f_X8_lay_13 a1 a2 s) (fun _ s9 => LaidC 3 a1 a2 s s9) := by
  unfold f_X8_lay_13
  refine pq_n (fun s1 e1 => pq_w (lay_b3 BIG 0 s1 (by decide) (by decide)) (fun _ s9 g => ⟨⟨?_, ?_, ?_, fun k hk => ?_⟩, ?_⟩))
  · show s9.1 13 1 = 1
    rw [g.1, e1, q_ne rfl, q_ne rfl, q_eq]
  · show s9.1 13 2 = a1
    rw [g.1, e1, q_ne rfl, q_eq]
  · show s9.1 13 3 = a2
    rw [g.1, e1, q_eq]
  · refine g.2.2.1 k ?_ hk
    have e0 : (0 : Int32).toInt = 0 := rfl
    omega
  · refine u4 ?_ ?_ ?_ ?_
    · refine fun _ => ⟨?_, ?_⟩
      · show s9.1 10 = s.1 10
        rw [g.1, e1, p_ne1 rfl, p_ne1 rfl, p_ne1 rfl]
      · rw [g.2.1 (14 + 0) (by decide), e1]; rfl
    · refine fun _ => ⟨?_, ?_⟩
      · show s9.1 11 = s.1 11
        rw [g.1, e1, p_ne1 rfl, p_ne1 rfl, p_ne1 rfl]
      · rw [g.2.1 (14 + 1) (by decide), e1]; rfl
    · refine fun _ => ⟨?_, ?_⟩
      · show s9.1 12 = s.1 12
        rw [g.1, e1, p_ne1 rfl, p_ne1 rfl, p_ne1 rfl]
      · rw [g.2.1 (14 + 2) (by decide), e1]; rfl
    · exact fun w => absurd rfl w
theorem s4_i {α : Type} {i : Int32} {a b c d : Option (α × Sg)} {Q : α → Sg → Prop} (h : 0 ≤ i.toInt ∧ i.toInt ≤ 3) (ha : i.toNatClampNeg = 0 → PQ a Q) (hb : i.toNatClampNeg = 1 → PQ b Q) (hc : i.toNatClampNeg = 2 → PQ c Q) (hd : i.toNatClampNeg = 3 → PQ d Q) : PQ (sel4 i a b c d) Q := by
  have cl := cl_nat i
  have e0 : (nI 0).toInt = 0 := rfl
  have e1 : (nI 1).toInt = 1 := rfl
  have e2 : (nI 2).toInt = 2 := rfl
  unfold sel4
  refine pq_if (fun q => ha ?_) (fun q0 => pq_if (fun q => hb ?_) (fun q1 => pq_if (fun q => hc ?_) (fun q2 => hd ?_)))
  · have := i_eq q
    omega
  · have := i_eq q
    omega
  · have := i_eq q
    omega
  · have := i_ne q0
    have := i_ne q1
    have := i_ne q2
    omega
theorem tray_cf (a1 a2 a3 : Int32) (s : Sg) : PQ (f_X11_tray a1 a2 a3 s) (fun _ s9 => (OKT a1 a2 a3 ∧ LaidC a1.toNatClampNeg a2 a3 s s9) ∨ (¬ OKT a1 a2 a3 ∧ KeptC s s9)) := by
  have n10 : ∀ r : Int32, r = 1 → ¬ r = 0 := fun r e w => absurd (e.symm.trans w) (by decide)
  unfold f_X11_tray
  refine pq_b (it_p a1 s) (fun r1 s2 g1 => ?_)
  obtain ⟨e2, g1⟩ := g1
  subst e2
  refine pq_if (fun c => rd_x (fun w => ?_) 1) (fun c => pq_b (wi_p a2 0 3 s2) (fun r5 s6 g5 => ?_))
  · rcases g1 with q | q
    · exact n10 _ q.1 c
    · exact q.2 w.1
  obtain ⟨e6, g5⟩ := g5
  subst e6
  refine pq_if (fun c5 => rd_x (fun w => ?_) 1) (fun c5 => pq_b (wi_p a3 0 60 s6) (fun r9 s10 g9 => ?_))
  · rcases g5 with q | q
    · exact n10 _ q.1 c5
    · exact q.2 w.2.1
  obtain ⟨e10, g9⟩ := g9
  subst e10
  refine pq_if (fun c9 => rd_x (fun w => ?_) 1) (fun c9 => pq_c (fun _ => ?_))
  · rcases g9 with q | q
    · exact n10 _ q.1 c9
    · exact q.2 w.2.2
  · have ok : OKT a1 a2 a3 := by
      refine ⟨?_, ?_, ?_⟩
      · rcases g1 with q | q
        · exact q.2
        · exact absurd q.1 c
      · rcases g5 with q | q
        · exact q.2
        · exact absurd q.1 c5
      · rcases g9 with q | q
        · exact q.2
        · exact absurd q.1 c9
    have gr : ∀ s15 : Sg, PQ (f_X11_granted s15) (fun _ s9 => s9 = pI s15 0 15 0) := fun s15 => by unfold f_X11_granted; exact pq_s rfl
    refine s4_i ok.1 (fun e => ?_) (fun e => ?_) (fun e => ?_) (fun e => ?_)
    · refine pq_b (lay_0 a2 a3 s10) (fun _ s15 g15 => pq_b (gr s15) (fun _ s17 g17 => pq_c (fun _ => pq_s (Or.inl ⟨ok, ?_⟩))))
      rw [e, g17]
      exact lc_st g15 (by decide) 15 0
    · refine pq_b (lay_1 a2 a3 s10) (fun _ s15 g15 => pq_b (gr s15) (fun _ s17 g17 => pq_c (fun _ => pq_s (Or.inl ⟨ok, ?_⟩))))
      rw [e, g17]
      exact lc_st g15 (by decide) 15 0
    · refine pq_b (lay_2 a2 a3 s10) (fun _ s15 g15 => pq_b (gr s15) (fun _ s17 g17 => pq_c (fun _ => pq_s (Or.inl ⟨ok, ?_⟩))))
      rw [e, g17]
      exact lc_st g15 (by decide) 15 0
    · refine pq_b (lay_3 a2 a3 s10) (fun _ s15 g15 => pq_b (gr s15) (fun _ s17 g17 => pq_c (fun _ => pq_s (Or.inl ⟨ok, ?_⟩))))
      rw [e, g17]
      exact lc_st g15 (by decide) 15 0
/-! trays: the reference -/
theorem isk (a : Int32) (s : Sg) : PQ (f_X12_is a s) (fun _ s9 => s9 = pI s 0 2 a) := by
  unfold f_X12_is
  exact pq_if (fun _ => pq_s rfl) (fun _ => pq_s rfl)
theorem tb_49f (v1 v3 : Int32) (h1 : 0 ≤ v1.toInt ∧ v1.toInt ≤ 3) (h3 : v3.toInt ≤ 60) (n : Nat) : ∀ (v4 : Int32) (s : Sg), 0 ≤ v4.toInt → PQ (f_X12_tray_b49 n v1 v3 v4 s) (fun _ s9 => (s9.1 3 = s.1 3 ∧ s9.1 4 = s.1 4) ∧ (∀ p : Nat, 60 * v1.toInt + v4.toInt ≤ (p : Int) → (p : Int) < 60 * v1.toInt + v3.toInt → s9.2 5 p = 0) ∧ (∀ p : Nat, (p : Int) < 60 * v1.toInt + v4.toInt ∨ 60 * v1.toInt + v3.toInt ≤ (p : Int) → s9.2 5 p = s.2 5 p)) := by
  induction n with
  | zero => intro v4 s _ r s9 e; cases e
  | succ n ih =>
    intro v4 s h0
    have e60 : (60 : Int32).toInt = 60 := rfl
    have e1 : (1 : Int32).toInt = 1 := rfl
    unfold f_X12_tray_b49
    refine pq_if (fun c => pq_b (isk 0 s) (fun r s14 g => pq_c (fun _ => pq_s ?_))) (fun c => pq_c (fun _ => pq_n (fun s16 e16 => ?_)))
    · have c := i_le c
      rw [g]
      exact ⟨⟨p_ne1 rfl, p_ne1 rfl⟩, fun p p1 p2 => by omega, fun _ _ => rfl⟩
    · have c := i_nle c
      have a1 : (v4 + 1).toInt = v4.toInt + 1 := i_addx v4 1 (show -2147483648 ≤ v4.toInt + 1 ∧ v4.toInt + 1 ≤ 2147483647 from by omega)
      have m1 : (60 * v1).toInt = 60 * v1.toInt := i_mulx 60 v1 (show -2147483648 ≤ 60 * v1.toInt ∧ 60 * v1.toInt ≤ 2147483647 from by omega)
      have m2 : ((60 * v1) + v4).toInt = (60 * v1).toInt + v4.toInt := i_addx (60 * v1) v4 (by omega)
      have cl := cl_nat ((60 * v1) + v4)
      refine pq_w (ih (v4 + 1) s16 (by omega)) (fun _ s9 g => ⟨?_, fun p p1 p2 => ?_, fun p p1 => ?_⟩)
      · rw [g.1.1, g.1.2, e16]
        exact ⟨rfl, rfl⟩
      · by_cases q : (p : Int) = 60 * v1.toInt + v4.toInt
        · rw [g.2.2 p (by omega), e16, pL_2, if_pos ⟨rfl, by omega⟩]
        · exact g.2.1 p (by omega) p2
      · rw [g.2.2 p (by omega), e16, pL_2, if_neg (fun w => absurd w.2 (by omega))]
theorem tray_mf (a1 a2 a3 : Int32) (s : Sg) : PQ (f_X12_tray a1 a2 a3 s) (fun _ s9 => (OKT a1 a2 a3 ∧ LaidM a1.toNatClampNeg a2 a3 s s9) ∨ (¬ OKT a1 a2 a3 ∧ KeptM s s9)) := by
  have rf : ∀ s', s' = s → ¬ OKT a1 a2 a3 → PQ (bd (f_X12_is 1 s') (fun r s => ck (r = 0 ∨ r = 1) (some (r, s)))) (fun _ s9 => (OKT a1 a2 a3 ∧ LaidM a1.toNatClampNeg a2 a3 s s9) ∨ (¬ OKT a1 a2 a3 ∧ KeptM s s9)) := fun s' e h => pq_b (isk 1 s') (fun r s9 g => pq_c (fun _ => pq_s (Or.inr ⟨h, by rw [g, e]; exact km_st s 2 1⟩)))
  have n10 : ∀ r : Int32, r = 1 → ¬ r = 0 := fun r e w => absurd (e.symm.trans w) (by decide)
  have e0 : (0 : Int32).toInt = 0 := rfl
  have e3 : (3 : Int32).toInt = 3 := rfl
  have e60 : (60 : Int32).toInt = 60 := rfl
  unfold f_X12_tray
  refine pq_b (itm_p a1 s) (fun r1 s2 g1 => pq_if (fun c => rf _ g1.1 (fun w => ?_)) (fun c => pq_if (fun c1 => rf _ g1.1 (fun w => ?_)) (fun c1 => pq_if (fun c2 => rf _ g1.1 (fun w => ?_)) (fun c2 => pq_if (fun c3 => rf _ g1.1 (fun w => ?_)) (fun c3 => pq_if (fun c4 => pq_c (fun _ => pq_n (fun s12 e12 => ?_))) (fun c4 => rf _ g1.1 (fun w => ?_)))))))
  · rcases g1.2 with q | q
    · exact n10 _ q.1 c
    · exact q.2 w.1
  · have := i_lt c1
    have := w.2.1.1
    omega
  · have := i_lt c2
    have := w.2.1.2
    omega
  · have := i_lt c3
    have := w.2.2.1
    omega
  · have ok : OKT a1 a2 a3 := by
      refine ⟨?_, ⟨?_, ?_⟩, ?_, ?_⟩
      · rcases g1.2 with q | q
        · exact q.2
        · exact absurd q.1 c
      · have := i_nlt c1
        omega
      · have := i_nlt c2
        omega
      · have := i_nlt c3
        omega
      · have := i_le c4
        omega
    have ok2 := ok
    obtain ⟨⟨l0, l3⟩, -, m0, m6⟩ := ok2
    have cl := cl_nat a1
    rw [g1.1] at e12
    refine pq_w (tb_49f a1 a3 ⟨l0, l3⟩ m6 BIG 0 s12 (by decide)) (fun r s9 g => Or.inl ⟨ok, ⟨?_, ?_, fun k hk => ?_⟩, fun u hu hn => ⟨?_, ?_, fun k hk => ?_⟩⟩)
    · rw [g.1.1, e12, q_nc rfl, q_eq]
    · rw [g.1.2, e12, q_eq]
    · exact g.2.1 _ (by omega) (by omega)
    · rw [g.1.1, e12, q_nc rfl, pI_1, if_neg (fun w => hn w.2)]
    · rw [g.1.2, e12, pI_1, if_neg (fun w => hn w.2), q_nc rfl]
    · rw [g.2.2 _ (by omega), e12]
      rfl
  · have := i_nle c4
    have := w.2.2.2
    omega
/-! write, read -/
def WhyP (T G I : Prop) (r : Int32) : Prop := (¬ T ∧ r = 1) ∨ (T ∧ G ∧ r = 2) ∨ (T ∧ ¬ G ∧ I ∧ r = 0) ∨ (T ∧ ¬ G ∧ ¬ I ∧ r = 3)
theorem why_0 {T G I : Prop} {r : Int32} (h : WhyP T G I r) (e : r = 0) : T ∧ ¬ G ∧ I := by
  subst e
  rcases h with q | q | q | q
  · exact absurd q.2 (by decide)
  · exact absurd q.2.2 (by decide)
  · exact ⟨q.1, q.2.1, q.2.2.1⟩
  · exact absurd q.2.2.2 (by decide)
theorem why_eq {T G I G' I' : Prop} {r r' : Int32} (h : WhyP T G I r) (g : WhyP T G' I' r') (e : T → (G ↔ G')) (f : T → ¬ G → (I ↔ I')) : r = r' := by
  rcases h with q | q | q | q <;> rcases g with p | p | p | p
  · exact q.2.trans p.2.symm
  · exact absurd p.1 q.1
  · exact absurd p.1 q.1
  · exact absurd p.1 q.1
  · exact absurd q.1 p.1
  · exact q.2.2.trans p.2.2.symm
  · exact absurd ((e q.1).mp q.2.1) p.2.1
  · exact absurd ((e q.1).mp q.2.1) p.2.1
  · exact absurd q.1 p.1
  · exact absurd ((e q.1).mpr p.2.1) q.2.1
  · exact q.2.2.2.trans p.2.2.2.symm
  · exact absurd ((f q.1 q.2.1).mp q.2.2.1) p.2.2.1
  · exact absurd q.1 p.1
  · exact absurd ((e q.1).mpr p.2.1) q.2.1
  · exact absurd ((f q.1 q.2.1).mpr p.2.2.1) q.2.2.1
  · exact q.2.2.2.trans p.2.2.2.symm
def TrayA (a : Int32) : Prop := 0 ≤ a.toInt ∧ a.toInt ≤ 3
def InC (t : Nat) (a2 : Int32) (s : Sg) : Prop := 0 ≤ a2.toInt ∧ a2.toInt ≤ (s.1 (10 + t) 3 - 1).toInt
def InM (t : Nat) (a2 : Int32) (s : Sg) : Prop := 0 ≤ a2.toInt ∧ a2.toInt < (s.1 4 t).toInt
theorem wnp_c (a1 a2 : Int32) (s : Sg) : PQ (f_X11_whyNoPlace a1 a2 s) (fun r s9 => s9 = s ∧ WhyP (TrayA a1) (s.1 (10 + a1.toNatClampNeg) 1 = 0) (InC a1.toNatClampNeg a2 s) r) := by
  unfold f_X11_whyNoPlace
  refine pq_b (it_p a1 s) (fun r1 s2 g1 => ?_)
  obtain ⟨e2, g1⟩ := g1
  subst e2
  refine pq_if (fun c => pq_s ⟨rfl, Or.inl ⟨?_, rfl⟩⟩) (fun c => pq_c (fun _ => ?_))
  · rcases g1 with q | q
    · exact absurd (q.1.symm.trans c) (by decide)
    · exact q.2
  · have ok : TrayA a1 := by
      rcases g1 with q | q
      · exact q.2
      · exact absurd q.1 c
    refine s4_i ok (fun e => ?_) (fun e => ?_) (fun e => ?_) (fun e => ?_)
    · rw [e]
      refine pq_if (fun c1 => pq_s ⟨rfl, Or.inr (Or.inl ⟨ok, c1, rfl⟩)⟩) (fun c1 => pq_b (wi_p a2 0 _ s2) (fun r4 s5 g4 => ?_))
      obtain ⟨e5, g4⟩ := g4
      refine pq_if (fun c4 => pq_s ⟨e5, Or.inr (Or.inr (Or.inr ⟨ok, c1, ?_, rfl⟩))⟩) (fun c4 => pq_s ⟨e5, Or.inr (Or.inr (Or.inl ⟨ok, c1, ?_, rfl⟩))⟩)
      · rcases g4 with q | q
        · exact absurd (q.1.symm.trans c4) (by decide)
        · exact q.2
      · rcases g4 with q | q
        · exact q.2
        · exact absurd q.1 c4
    · rw [e]
      refine pq_if (fun c1 => pq_s ⟨rfl, Or.inr (Or.inl ⟨ok, c1, rfl⟩)⟩) (fun c1 => pq_b (wi_p a2 0 _ s2) (fun r4 s5 g4 => ?_))
      obtain ⟨e5, g4⟩ := g4
      refine pq_if (fun c4 => pq_s ⟨e5, Or.inr (Or.inr (Or.inr ⟨ok, c1, ?_, rfl⟩))⟩) (fun c4 => pq_s ⟨e5, Or.inr (Or.inr (Or.inl ⟨ok, c1, ?_, rfl⟩))⟩)
      · rcases g4 with q | q
        · exact absurd (q.1.symm.trans c4) (by decide)
        · exact q.2
      · rcases g4 with q | q
        · exact q.2
        · exact absurd q.1 c4
    · rw [e]
      refine pq_if (fun c1 => pq_s ⟨rfl, Or.inr (Or.inl ⟨ok, c1, rfl⟩)⟩) (fun c1 => pq_b (wi_p a2 0 _ s2) (fun r4 s5 g4 => ?_))
      obtain ⟨e5, g4⟩ := g4
      refine pq_if (fun c4 => pq_s ⟨e5, Or.inr (Or.inr (Or.inr ⟨ok, c1, ?_, rfl⟩))⟩) (fun c4 => pq_s ⟨e5, Or.inr (Or.inr (Or.inl ⟨ok, c1, ?_, rfl⟩))⟩)
      · rcases g4 with q | q
        · exact absurd (q.1.symm.trans c4) (by decide)
        · exact q.2
      · rcases g4 with q | q
        · exact q.2
        · exact absurd q.1 c4
    · rw [e]
      refine pq_if (fun c1 => pq_s ⟨rfl, Or.inr (Or.inl ⟨ok, c1, rfl⟩)⟩) (fun c1 => pq_b (wi_p a2 0 _ s2) (fun r4 s5 g4 => ?_))
      obtain ⟨e5, g4⟩ := g4
      refine pq_if (fun c4 => pq_s ⟨e5, Or.inr (Or.inr (Or.inr ⟨ok, c1, ?_, rfl⟩))⟩) (fun c4 => pq_s ⟨e5, Or.inr (Or.inr (Or.inl ⟨ok, c1, ?_, rfl⟩))⟩)
      · rcases g4 with q | q
        · exact absurd (q.1.symm.trans c4) (by decide)
        · exact q.2
      · rcases g4 with q | q
        · exact q.2
        · exact absurd q.1 c4
theorem wp_m (a1 a2 : Int32) (s : Sg) : PQ (f_X12_wrongPlace a1 a2 s) (fun r s9 => s9 = s ∧ WhyP (TrayA a1) (s.1 4 a1.toNatClampNeg = -1) (InM a1.toNatClampNeg a2 s) r) := by
  have e0 : (0 : Int32).toInt = 0 := rfl
  unfold f_X12_wrongPlace
  refine pq_b (itm_p a1 s) (fun r1 s2 g1 => ?_)
  obtain ⟨e2, g1⟩ := g1
  subst e2
  refine pq_if (fun c => pq_s ⟨rfl, Or.inl ⟨?_, rfl⟩⟩) (fun c => pq_c (fun _ => ?_))
  · rcases g1 with q | q
    · exact absurd (q.1.symm.trans c) (by decide)
    · exact q.2
  · have ok : TrayA a1 := by
      rcases g1 with q | q
      · exact q.2
      · exact absurd q.1 c
    refine pq_if (fun c1 => pq_s ⟨rfl, Or.inr (Or.inl ⟨ok, c1, rfl⟩)⟩) (fun c1 => pq_if (fun c2 => pq_s ⟨rfl, Or.inr (Or.inr (Or.inr ⟨ok, c1, fun w => ?_, rfl⟩))⟩) (fun c2 => pq_if (fun c3 => pq_s ⟨rfl, Or.inr (Or.inr (Or.inl ⟨ok, c1, ⟨?_, i_lt c3⟩, rfl⟩))⟩) (fun c3 => pq_s ⟨rfl, Or.inr (Or.inr (Or.inr ⟨ok, c1, fun w => ?_, rfl⟩))⟩)))
    · have := i_lt c2
      have := w.1
      omega
    · have := i_nlt c2
      omega
    · have := i_nlt c3
      have := w.2
      omega
def cutf (q : Int32) (v : Int64) : Int64 := if q = 0 then v.toInt32.toInt8.toInt32.toInt64 else if q = 1 then v.toInt32.toInt16.toInt32.toInt64 else if q = 2 then v.toInt32.toInt64 else v
theorem cut_m (v : Int64) (q : Int32) (s : Sg) : PQ (f_X12_cut v q s) (fun r s9 => s9 = s ∧ r = cutf q v) := by
  unfold f_X12_cut cutf
  refine pq_if (fun c => pq_s ⟨rfl, by rw [if_pos c]⟩) (fun c => pq_if (fun c1 => pq_s ⟨rfl, by rw [if_neg c, if_pos c1]⟩) (fun c1 => pq_if (fun c2 => pq_s ⟨rfl, by rw [if_neg c, if_neg c1, if_pos c2]⟩) (fun c2 => pq_s ⟨rfl, by rw [if_neg c, if_neg c1, if_neg c2]⟩)))
def WroC (t : Nat) (a2 : Int32) (v : Int64) (s s9 : Sg) : Prop := (∀ u, u < 4 → s9.1 (10 + u) = s.1 (10 + u)) ∧ (∀ u, u < 4 → ¬ u = t → s9.2 (14 + u) = s.2 (14 + u)) ∧ ∀ k, s9.2 (14 + t) k = if k = a2.toNatClampNeg then v else s.2 (14 + t) k
def WroM (t : Nat) (a2 : Int32) (v : Int64) (s s9 : Sg) : Prop := s9.1 3 = s.1 3 ∧ s9.1 4 = s.1 4 ∧ ∀ p : Nat, s9.2 5 p = if (p : Int) = 60 * (t : Int) + a2.toInt then v else s.2 5 p
theorem cut_0 (v : Int64) (s : Sg) : PQ (f_X8_cut_10 v s) (fun r s9 => s9 = s ∧ r = cutf (s.1 10 2) v) := by
  unfold f_X8_cut_10 cutf
  refine pq_if (fun c => pq_s ⟨rfl, by rw [if_pos c]⟩) (fun c => pq_if (fun c1 => pq_s ⟨rfl, by rw [if_neg c, if_pos c1]⟩) (fun c1 => pq_if (fun c2 => pq_s ⟨rfl, by rw [if_neg c, if_neg c1, if_pos c2]⟩) (fun c2 => pq_s ⟨rfl, by rw [if_neg c, if_neg c1, if_neg c2]⟩)))
theorem put_0 (a1 : Int32) (v : Int64) (s : Sg) : PQ (f_X8_put_10 a1 v s) (fun _ s9 => s9 = pL s 14 a1.toNatClampNeg (cutf (s.1 10 2) v)) := by
  unfold f_X8_put_10
  refine pq_b (cut_0 v s) (fun r1 s2 g => pq_c (fun _ => pq_s ?_))
  rw [g.1, g.2]
theorem wro_0 (a : Int32) (v : Int64) (s : Sg) : WroC 0 a v s (pI (pL s 14 a.toNatClampNeg v) 0 15 0) := by
  refine ⟨u4 (p_ne1 rfl) (p_ne1 rfl) (p_ne1 rfl) (p_ne1 rfl), u4 (fun n => absurd rfl n) (fun _ => show (pL s 14 a.toNatClampNeg v).2 15 = s.2 15 from l_ne2 rfl) (fun _ => show (pL s 14 a.toNatClampNeg v).2 16 = s.2 16 from l_ne2 rfl) (fun _ => show (pL s 14 a.toNatClampNeg v).2 17 = s.2 17 from l_ne2 rfl), fun k => ?_⟩
  show (pL s 14 a.toNatClampNeg v).2 14 k = _
  rw [pL_2]
  by_cases q : k = a.toNatClampNeg
  · rw [if_pos ⟨rfl, q⟩, if_pos q]
  · rw [if_neg (fun w => q w.2), if_neg q]
theorem cut_1 (v : Int64) (s : Sg) : PQ (f_X8_cut_11 v s) (fun r s9 => s9 = s ∧ r = cutf (s.1 11 2) v) := by
  unfold f_X8_cut_11 cutf
  refine pq_if (fun c => pq_s ⟨rfl, by rw [if_pos c]⟩) (fun c => pq_if (fun c1 => pq_s ⟨rfl, by rw [if_neg c, if_pos c1]⟩) (fun c1 => pq_if (fun c2 => pq_s ⟨rfl, by rw [if_neg c, if_neg c1, if_pos c2]⟩) (fun c2 => pq_s ⟨rfl, by rw [if_neg c, if_neg c1, if_neg c2]⟩)))
theorem put_1 (a1 : Int32) (v : Int64) (s : Sg) : PQ (f_X8_put_11 a1 v s) (fun _ s9 => s9 = pL s 15 a1.toNatClampNeg (cutf (s.1 11 2) v)) := by
  unfold f_X8_put_11
  refine pq_b (cut_1 v s) (fun r1 s2 g => pq_c (fun _ => pq_s ?_))
  rw [g.1, g.2]
theorem wro_1 (a : Int32) (v : Int64) (s : Sg) : WroC 1 a v s (pI (pL s 15 a.toNatClampNeg v) 0 15 0) := by
  refine ⟨u4 (p_ne1 rfl) (p_ne1 rfl) (p_ne1 rfl) (p_ne1 rfl), u4 (fun _ => show (pL s 15 a.toNatClampNeg v).2 14 = s.2 14 from l_ne2 rfl) (fun n => absurd rfl n) (fun _ => show (pL s 15 a.toNatClampNeg v).2 16 = s.2 16 from l_ne2 rfl) (fun _ => show (pL s 15 a.toNatClampNeg v).2 17 = s.2 17 from l_ne2 rfl), fun k => ?_⟩
  show (pL s 15 a.toNatClampNeg v).2 15 k = _
  rw [pL_2]
  by_cases q : k = a.toNatClampNeg
  · rw [if_pos ⟨rfl, q⟩, if_pos q]
  · rw [if_neg (fun w => q w.2), if_neg q]
theorem cut_2 (v : Int64) (s : Sg) : PQ (f_X8_cut_12 v s) (fun r s9 => s9 = s ∧ r = cutf (s.1 12 2) v) := by
  unfold f_X8_cut_12 cutf
  refine pq_if (fun c => pq_s ⟨rfl, by rw [if_pos c]⟩) (fun c => pq_if (fun c1 => pq_s ⟨rfl, by rw [if_neg c, if_pos c1]⟩) (fun c1 => pq_if (fun c2 => pq_s ⟨rfl, by rw [if_neg c, if_neg c1, if_pos c2]⟩) (fun c2 => pq_s ⟨rfl, by rw [if_neg c, if_neg c1, if_neg c2]⟩)))
theorem put_2 (a1 : Int32) (v : Int64) (s : Sg) : PQ (f_X8_put_12 a1 v s) (fun _ s9 => s9 = pL s 16 a1.toNatClampNeg (cutf (s.1 12 2) v)) := by
  unfold f_X8_put_12
  refine pq_b (cut_2 v s) (fun r1 s2 g => pq_c (fun _ => pq_s ?_))
  rw [g.1, g.2]
theorem wro_2 (a : Int32) (v : Int64) (s : Sg) : WroC 2 a v s (pI (pL s 16 a.toNatClampNeg v) 0 15 0) := by
  refine ⟨u4 (p_ne1 rfl) (p_ne1 rfl) (p_ne1 rfl) (p_ne1 rfl), u4 (fun _ => show (pL s 16 a.toNatClampNeg v).2 14 = s.2 14 from l_ne2 rfl) (fun _ => show (pL s 16 a.toNatClampNeg v).2 15 = s.2 15 from l_ne2 rfl) (fun n => absurd rfl n) (fun _ => show (pL s 16 a.toNatClampNeg v).2 17 = s.2 17 from l_ne2 rfl), fun k => ?_⟩
  show (pL s 16 a.toNatClampNeg v).2 16 k = _
  rw [pL_2]
  by_cases q : k = a.toNatClampNeg
  · rw [if_pos ⟨rfl, q⟩, if_pos q]
  · rw [if_neg (fun w => q w.2), if_neg q]
theorem cut_3 (v : Int64) (s : Sg) : PQ (f_X8_cut_13 v s) (fun r s9 => s9 = s ∧ r = cutf (s.1 13 2) v) := by
  unfold f_X8_cut_13 cutf
  refine pq_if (fun c => pq_s ⟨rfl, by rw [if_pos c]⟩) (fun c => pq_if (fun c1 => pq_s ⟨rfl, by rw [if_neg c, if_pos c1]⟩) (fun c1 => pq_if (fun c2 => pq_s ⟨rfl, by rw [if_neg c, if_neg c1, if_pos c2]⟩) (fun c2 => pq_s ⟨rfl, by rw [if_neg c, if_neg c1, if_neg c2]⟩)))
theorem put_3 (a1 : Int32) (v : Int64) (s : Sg) : PQ (f_X8_put_13 a1 v s) (fun _ s9 => s9 = pL s 17 a1.toNatClampNeg (cutf (s.1 13 2) v)) := by
  unfold f_X8_put_13
  refine pq_b (cut_3 v s) (fun r1 s2 g => pq_c (fun _ => pq_s ?_))
  rw [g.1, g.2]
theorem wro_3 (a : Int32) (v : Int64) (s : Sg) : WroC 3 a v s (pI (pL s 17 a.toNatClampNeg v) 0 15 0) := by
  refine ⟨u4 (p_ne1 rfl) (p_ne1 rfl) (p_ne1 rfl) (p_ne1 rfl), u4 (fun _ => show (pL s 17 a.toNatClampNeg v).2 14 = s.2 14 from l_ne2 rfl) (fun _ => show (pL s 17 a.toNatClampNeg v).2 15 = s.2 15 from l_ne2 rfl) (fun _ => show (pL s 17 a.toNatClampNeg v).2 16 = s.2 16 from l_ne2 rfl) (fun n => absurd rfl n), fun k => ?_⟩
  show (pL s 17 a.toNatClampNeg v).2 17 k = _
  rw [pL_2]
  by_cases q : k = a.toNatClampNeg
  · rw [if_pos ⟨rfl, q⟩, if_pos q]
  · rw [if_neg (fun w => q w.2), if_neg q]
theorem write_c (a1 a2 : Int32) (v : Int64) (s : Sg) : PQ (f_X11_write a1 a2 v s) (fun r s9 => ((TrayA a1 ∧ ¬ s.1 (10 + a1.toNatClampNeg) 1 = 0 ∧ InC a1.toNatClampNeg a2 s) ∧ r = 1 ∧ WroC a1.toNatClampNeg a2 (cutf (s.1 (10 + a1.toNatClampNeg) 2) v) s s9) ∨ (¬ (TrayA a1 ∧ ¬ s.1 (10 + a1.toNatClampNeg) 1 = 0 ∧ InC a1.toNatClampNeg a2 s) ∧ r = 0 ∧ KeptC s s9)) := by
  unfold f_X11_write
  refine pq_b (wnp_c a1 a2 s) (fun r1 s2 g1 => ?_)
  obtain ⟨e2, g1⟩ := g1
  subst e2
  have gr : ∀ s15 : Sg, PQ (f_X11_granted s15) (fun r s9 => r = 1 ∧ s9 = pI s15 0 15 0) := fun s15 => by unfold f_X11_granted; exact pq_s ⟨rfl, rfl⟩
  refine pq_if (fun c => pq_c (fun _ => ?_)) (fun c => pq_b (rd_k r1 s2) (fun r s9 g => pq_c (fun _ => pq_s (Or.inr ⟨fun w => c ?_, g⟩))))
  · have ok := why_0 g1 c
    refine s4_i ok.1 (fun e => ?_) (fun e => ?_) (fun e => ?_) (fun e => ?_)
    · rw [e] at ok ⊢
      refine pq_b (put_0 a2 v s2) (fun _ s5 g5 => pq_b (gr s5) (fun r6 s7 g7 => pq_c (fun _ => pq_s (Or.inl ⟨ok, g7.1, ?_⟩))))
      rw [g7.2, g5]
      exact wro_0 a2 _ s2
    · rw [e] at ok ⊢
      refine pq_b (put_1 a2 v s2) (fun _ s5 g5 => pq_b (gr s5) (fun r6 s7 g7 => pq_c (fun _ => pq_s (Or.inl ⟨ok, g7.1, ?_⟩))))
      rw [g7.2, g5]
      exact wro_1 a2 _ s2
    · rw [e] at ok ⊢
      refine pq_b (put_2 a2 v s2) (fun _ s5 g5 => pq_b (gr s5) (fun r6 s7 g7 => pq_c (fun _ => pq_s (Or.inl ⟨ok, g7.1, ?_⟩))))
      rw [g7.2, g5]
      exact wro_2 a2 _ s2
    · rw [e] at ok ⊢
      refine pq_b (put_3 a2 v s2) (fun _ s5 g5 => pq_b (gr s5) (fun r6 s7 g7 => pq_c (fun _ => pq_s (Or.inl ⟨ok, g7.1, ?_⟩))))
      rw [g7.2, g5]
      exact wro_3 a2 _ s2
  · rcases g1 with q | q | q | q
    · exact absurd w.1 q.1
    · exact absurd q.2.1 w.2.1
    · exact q.2.2.2
    · exact absurd w.2.2 q.2.2.1
theorem write_m (a1 a2 : Int32) (v : Int64) (s : Sg) (h6 : ∀ t, (s.1 4 t).toInt ≤ 60) : PQ (f_X12_write a1 a2 v s) (fun r s9 => ((TrayA a1 ∧ ¬ s.1 4 a1.toNatClampNeg = -1 ∧ InM a1.toNatClampNeg a2 s) ∧ r = 1 ∧ WroM a1.toNatClampNeg a2 (cutf (s.1 3 a1.toNatClampNeg) v) s s9) ∨ (¬ (TrayA a1 ∧ ¬ s.1 4 a1.toNatClampNeg = -1 ∧ InM a1.toNatClampNeg a2 s) ∧ r = 0 ∧ KeptM s s9)) := by
  unfold f_X12_write
  refine pq_b (wp_m a1 a2 s) (fun r1 s2 g1 => ?_)
  obtain ⟨e2, g1⟩ := g1
  subst e2
  have e60 : (60 : Int32).toInt = 60 := rfl
  refine pq_if (fun c => pq_c (fun _ => pq_b (cut_m _ _ _) (fun r4 s5 g4 => ?_))) (fun c => pq_b (pq_and (isk r1 s2) (is_n r1 s2 c)) (fun r s9 g => pq_c (fun _ => pq_s (Or.inr ⟨fun w => c ?_, g.2, by rw [g.1]; exact km_st s2 2 r1⟩))))
  · have ok := why_0 g1 c
    obtain ⟨e5, g4⟩ := g4
    subst e5
    have l := h6 a1.toNatClampNeg
    have o1 := ok.1
    have o2 := ok.2.2
    unfold TrayA at o1
    unfold InM at o2
    have m1 : (60 * a1).toInt = 60 * a1.toInt := i_mulx 60 a1 (show -2147483648 ≤ 60 * a1.toInt ∧ 60 * a1.toInt ≤ 2147483647 from by omega)
    have m2 : ((60 * a1) + a2).toInt = (60 * a1).toInt + a2.toInt := i_addx (60 * a1) a2 (by omega)
    have cl := cl_nat ((60 * a1) + a2)
    have cl1 := cl_nat a1
    refine pq_c (fun _ => pq_n (fun s7 e7 => ?_))
    rw [c]
    refine pq_b (pq_and (isk 0 s7) (is_z s7)) (fun r8 s9 g8 => pq_c (fun _ => pq_s (Or.inl ⟨ok, g8.2, ?_⟩)))
    rw [g8.1, e7]
    refine ⟨p_ne1 rfl, p_ne1 rfl, fun p => ?_⟩
    show (pL s5 5 ((60 * a1) + a2).toNatClampNeg r4).2 5 p = _
    rw [pL_2, g4]
    by_cases q : (p : Int) = 60 * (a1.toNatClampNeg : Int) + a2.toInt
    · rw [if_pos ⟨rfl, by omega⟩, if_pos q]
    · rw [if_neg (fun w => q (by have := w.2; omega)), if_neg q]
  · rcases g1 with q | q | q | q
    · exact absurd w.1 q.1
    · exact absurd q.2.1 w.2.1
    · exact q.2.2.2
    · exact absurd w.2.2 q.2.2.1
theorem in_iff {t : Nat} {a2 : Int32} {sC sM : Sg} (h : TrR t sC sM) (hg : ¬ sC.1 (10 + t) 1 = 0) : InC t a2 sC ↔ InM t a2 sM := by
  rcases h with q | q
  · exact absurd q.1 hg
  · have e1 : (1 : Int32).toInt = 1 := rfl
    have := i_sub (sC.1 (10 + t) 3) 1
    have := q.2.2.2.1
    unfold InC InM
    rw [q.2.1]
    constructor <;> intro w <;> omega
theorem gone_iff {t : Nat} {sC sM : Sg} (h : TrR t sC sM) : sC.1 (10 + t) 1 = 0 ↔ sM.1 4 t = -1 := by
  rcases h with q | q
  · exact ⟨fun _ => q.2, fun _ => q.1⟩
  · refine ⟨fun w => absurd w q.1, fun w => ?_⟩
    rw [q.2.1] at w
    have := q.2.2.2.1.1
    rw [w] at this
    exact absurd this (by decide)
theorem tr_wro {t a : Nat} {a2 : Int32} {v : Int64} {sC sM sC9 sM9 : Sg} (ht : t < 4) (ha : a < 4) (h : TrR t sC sM) (hi : 0 ≤ a2.toInt ∧ a2.toInt < 60) (gc : WroC a a2 v sC sC9) (gm : WroM a a2 v sM sM9) : TrR t sC9 sM9 := by
  have cl := cl_nat a2
  unfold TrR
  rw [gc.1 t ht, gm.1, gm.2.1]
  rcases h with q | q
  · exact Or.inl q
  · refine Or.inr ⟨q.1, q.2.1, q.2.2.1, q.2.2.2.1, fun k hk => ?_⟩
    have l := q.2.2.2.1.2
    rw [gm.2.2]
    by_cases e : t = a
    · subst e
      rw [gc.2.2 k]
      by_cases f : k = a2.toNatClampNeg
      · rw [if_pos f, if_pos (by omega)]
      · rw [if_neg f, if_neg (by omega)]
        exact q.2.2.2.2 k hk
    · rw [gc.2.1 t ht e, if_neg (by omega)]
      exact q.2.2.2.2 k hk
theorem read_c (a1 a2 : Int32) (s : Sg) : PQ (f_X11_read a1 a2 s) (fun r s9 => ((TrayA a1 ∧ ¬ s.1 (10 + a1.toNatClampNeg) 1 = 0 ∧ InC a1.toNatClampNeg a2 s) ∧ r = s.2 (14 + a1.toNatClampNeg) a2.toNatClampNeg ∧ KeptC s s9) ∨ (¬ (TrayA a1 ∧ ¬ s.1 (10 + a1.toNatClampNeg) 1 = 0 ∧ InC a1.toNatClampNeg a2 s) ∧ r = -1 ∧ KeptC s s9)) := by
  unfold f_X11_read
  refine pq_b (wnp_c a1 a2 s) (fun r1 s2 g1 => ?_)
  obtain ⟨e2, g1⟩ := g1
  subst e2
  refine pq_if (fun c => pq_c (fun _ => ?_)) (fun c => pq_b (show PQ (f_X11_refuse r1 s2) (fun r s9 => r = -1 ∧ KeptC s2 s9) from by unfold f_X11_refuse; exact pq_s ⟨rfl, kc_st s2 15 r1⟩) (fun r s9 g => pq_s (Or.inr ⟨fun w => c ?_, by rw [g.1]; rfl, g.2⟩)))
  · have ok := why_0 g1 c
    refine s4_i ok.1 (fun e => ?_) (fun e => ?_) (fun e => ?_) (fun e => ?_)
    · rw [e] at ok ⊢
      exact pq_c (fun _ => pq_s (Or.inl ⟨ok, rfl, kc_st s2 15 0⟩))
    · rw [e] at ok ⊢
      exact pq_c (fun _ => pq_s (Or.inl ⟨ok, rfl, kc_st s2 15 0⟩))
    · rw [e] at ok ⊢
      exact pq_c (fun _ => pq_s (Or.inl ⟨ok, rfl, kc_st s2 15 0⟩))
    · rw [e] at ok ⊢
      exact pq_c (fun _ => pq_s (Or.inl ⟨ok, rfl, kc_st s2 15 0⟩))
  · rcases g1 with q | q | q | q
    · exact absurd w.1 q.1
    · exact absurd q.2.1 w.2.1
    · exact q.2.2.2
    · exact absurd w.2.2 q.2.2.1
theorem read_m (a1 a2 : Int32) (s : Sg) (h6 : ∀ t, (s.1 4 t).toInt ≤ 60) : PQ (f_X12_read a1 a2 s) (fun r s9 => ((TrayA a1 ∧ ¬ s.1 4 a1.toNatClampNeg = -1 ∧ InM a1.toNatClampNeg a2 s) ∧ r = s.2 5 (60 * a1.toNatClampNeg + a2.toNatClampNeg)) ∨ (¬ (TrayA a1 ∧ ¬ s.1 4 a1.toNatClampNeg = -1 ∧ InM a1.toNatClampNeg a2 s) ∧ r = -1)) := by
  have e0 : (0 : Int32).toInt = 0 := rfl
  have e1 : (1 : Int32).toInt = 1 := rfl
  have e2' : (2 : Int32).toInt = 2 := rfl
  have e3 : (3 : Int32).toInt = 3 := rfl
  unfold f_X12_read
  refine pq_b (wp_m a1 a2 s) (fun r1 s2 g1 => ?_)
  obtain ⟨e2, g1⟩ := g1
  subst e2
  rw [show (pI s2 0 2 r1).1 0 2 = r1 from q_eq]
  refine pq_if (fun c => pq_c (fun _ => pq_s (Or.inl ?_))) (fun c => pq_s (Or.inr ⟨fun w => ?_, rfl⟩))
  · have c := i_le c
    have c0 : r1 = 0 := by
      rcases g1 with q | q | q | q
      · rw [q.2] at c; omega
      · rw [q.2.2] at c; omega
      · exact q.2.2.2
      · rw [q.2.2.2] at c; omega
    have ok := why_0 g1 c0
    refine ⟨ok, ?_⟩
    have l := h6 a1.toNatClampNeg
    have o1 := ok.1
    have o2 := ok.2.2
    unfold TrayA at o1
    unfold InM at o2
    have e60 : (60 : Int32).toInt = 60 := rfl
    have m1 : (60 * a1).toInt = 60 * a1.toInt := i_mulx 60 a1 (show -2147483648 ≤ 60 * a1.toInt ∧ 60 * a1.toInt ≤ 2147483647 from by omega)
    have m2 : ((60 * a1) + a2).toInt = (60 * a1).toInt + a2.toInt := i_addx (60 * a1) a2 (by omega)
    have cl := cl_nat ((60 * a1) + a2)
    have cl1 := cl_nat a1
    have cl2 := cl_nat a2
    have d : ((60 * a1) + a2).toNatClampNeg = 60 * a1.toNatClampNeg + a2.toNatClampNeg := by omega
    rw [d]
    rfl
  · have c := i_nle c
    rcases g1 with q | q | q | q
    · exact absurd w.1 q.1
    · exact absurd q.2.1 w.2.1
    · rw [q.2.2.2] at c; omega
    · exact absurd w.2.2 q.2.2.1
