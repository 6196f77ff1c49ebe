/-! copies of worlds: the class's -/
def loW (i : Nat) : Nat := if i = 1 then 12 else if i = 2 then 5 else if i = 3 then 6 else 0
def hiW (i : Nat) : Nat := if i = 1 then 20 else if i = 2 then 13 else if i = 3 then 9 else if i = 4 then 0 else if i = 0 then 0 else if i ≤ 6 then 24 else if i ≤ 10 then 8 else if i ≤ 15 then 4 else if i ≤ 19 then 8 else if i = 20 then 4 else if i ≤ 26 then 60 else 0
def dnW : List (Nat × Nat) → Nat → Nat
  | [], _ => 0
  | q :: r, i => if q.1 = i then q.2 else dnW r i
def CpI (b d : Nat) (l : List (Nat × Nat)) (nn : Nat) (s0 s : Sg) : Prop := (∀ c, ¬ (d + 1 ≤ c ∧ c ≤ d + 26) → s.1 c = s0.1 c ∧ s.2 c = s0.2 c) ∧ (∀ i k, 1 ≤ i → i ≤ 26 → loW i ≤ k → k < dnW l i → s.1 (d + i) k = s0.1 (b + i) k) ∧ (∀ k, k < nn → s.2 (d + 4) k = s0.2 (b + 4) k)
def CpW (b d : Nat) (s0 s : Sg) : Prop := (∀ c, ¬ (d + 1 ≤ c ∧ c ≤ d + 26) → s.1 c = s0.1 c ∧ s.2 c = s0.2 c) ∧ (∀ i k, 1 ≤ i → i ≤ 26 → loW i ≤ k → k < hiW i → s.1 (d + i) k = s0.1 (b + i) k) ∧ (∀ k, k < 24 → s.2 (d + 4) k = s0.2 (b + 4) k)
theorem cpi_0 (b d : Nat) (s : Sg) : CpI b d [] 0 s s := ⟨fun _ _ => ⟨rfl, rfl⟩, fun _ k _ _ _ h => absurd h (Nat.not_lt_zero k), fun k h => absurd h (Nat.not_lt_zero k)⟩
theorem va_cpy_in {α : Type} {f g : Nat → α} {n k : Nat} (h : k < n) : va_cpy f g 0 0 n k = f k := by
  unfold va_cpy
  rw [if_pos ⟨Nat.zero_le _, by omega⟩]
  exact congrArg f (by omega)
theorem pAc_1 (s : Sg) (c : Nat) (f : Nat → Int32) (c' : Nat) : (pA s c f).1 c' = if c' = c then f else s.1 c' := by
  by_cases h : c' = c
  · subst h
    rw [if_pos rfl]
    show va_up s.1 c' f c' = _
    rw [va_up_at]
  · rw [if_neg h]
    show va_up s.1 c f c' = _
    rw [va_up_off _ _ _ h]
theorem cpi_a {b d j n : Nat} {l : List (Nat × Nat)} {nn : Nat} {s0 s s' : Sg} (h : CpI b d l nn s0 s) (hbd : d + 26 < b + 1 ∨ b + 26 < d + 1) (hj : 1 ≤ j ∧ j ≤ 26) (e : s' = pA s (d + j) (va_cpy (s.1 (b + j)) (s.1 (d + j)) 0 0 n)) : CpI b d ((j, n) :: l) nn s0 s' := by
  subst e
  obtain ⟨h1, h2, h3⟩ := h
  refine ⟨fun c hc => ⟨?_, (h1 c hc).2⟩, fun i k i1 i2 k1 k2 => ?_, h3⟩
  · rw [pAc_1, if_neg (fun z => hc (by omega))]
    exact (h1 c hc).1
  · unfold dnW at k2
    rw [pAc_1]
    by_cases z : i = j
    · subst z
      rw [if_pos rfl] at k2
      rw [if_pos rfl, va_cpy_in k2]
      rw [(h1 (b + i) (by omega)).1]
    · rw [if_neg (fun y => z (by omega))]
      rw [if_neg (fun y => z y.symm)] at k2
      exact h2 i k i1 i2 k1 k2
theorem cpi_f {b d j k : Nat} {l : List (Nat × Nat)} {nn : Nat} {s0 s : Sg} (h : CpI b d l nn s0 s) (hbd : d + 26 < b + 1 ∨ b + 26 < d + 1) (hj : 1 ≤ j ∧ j ≤ 26) (hk : k ≤ dnW l j ∨ k = loW j) : CpI b d ((j, k + 1) :: l) nn s0 (pI s (d + j) k (s.1 (b + j) k)) := by
  obtain ⟨h1, h2, h3⟩ := h
  refine ⟨fun c hc => ⟨?_, (h1 c hc).2⟩, fun i k' i1 i2 k1 k2 => ?_, h3⟩
  · have e : (pI s (d + j) k (s.1 (b + j) k)).1 c = s.1 c := funext fun k' => by
      rw [pI_1, if_neg (fun z => hc (by have := z.1; omega))]
    rw [e]
    exact (h1 c hc).1
  · unfold dnW at k2
    rw [pI_1]
    by_cases z : i = j
    · subst z
      rw [if_pos rfl] at k2
      by_cases y : k' = k
      · subst y
        rw [if_pos ⟨rfl, rfl⟩, (h1 (b + i) (by omega)).1]
      · rw [if_neg (fun w => y w.2)]
        refine h2 i k' i1 i2 k1 ?_
        have k2 : k' < k + 1 := k2
        rcases hk with q | q <;> omega
    · rw [if_neg (fun y => z (by have := y.1; omega))]
      rw [if_neg (fun y => z y.symm)] at k2
      exact h2 i k' i1 i2 k1 k2
theorem cpi_e {b d : Nat} {l : List (Nat × Nat)} {nn : Nat} {s0 s s' : Sg} (h : CpI b d l nn s0 s) (e : s' = s) : CpI b d l nn s0 s' := by
  subst e; exact h
theorem cpi_b {b d : Nat} {l : List (Nat × Nat)} {s0 s : Sg} (h : CpI b d l 0 s0 s) (hbd : d + 26 < b + 1 ∨ b + 26 < d + 1) : CpI b d l 24 s0 (pB s (d + 4) (va_cpy (s.2 (b + 4)) (s.2 (d + 4)) 0 0 24)) := by
  obtain ⟨h1, h2, -⟩ := h
  have e : ∀ c, (pB s (d + 4) (va_cpy (s.2 (b + 4)) (s.2 (d + 4)) 0 0 24)).2 c = if c = d + 4 then va_cpy (s.2 (b + 4)) (s.2 (d + 4)) 0 0 24 else s.2 c := fun c => by
    show va_up s.2 (d + 4) _ c = _
    unfold va_up
    by_cases z : c = d + 4
    · rw [if_pos z]
    · rw [if_neg z]
  refine ⟨fun c hc => ⟨(h1 c hc).1, ?_⟩, h2, fun k hk => ?_⟩
  · rw [e, if_neg (fun z => hc (by omega))]
    exact (h1 c hc).2
  · rw [e, if_pos rfl, va_cpy_in hk]
    rw [(h1 (b + 4) (by omega)).2]
theorem cpw_of {b d : Nat} {l : List (Nat × Nat)} {s0 s : Sg} (h : CpI b d l 24 s0 s) (hl : ∀ i, i < 27 → hiW i ≤ dnW l i) : CpW b d s0 s := ⟨h.1, fun i k i1 i2 k1 k2 => h.2.1 i k i1 i2 k1 (Nat.lt_of_lt_of_le k2 (hl i (by omega))), h.2.2⟩

theorem cq_X4_copyFrom_52 {l : List (Nat × Nat)} {s0 s : Sg} (h : CpI 51 24 l 0 s0 s) : PQ (f_X4_copyFrom_52 s) (fun _ s9 => CpI 51 24 ((1, 20) :: ((1, 19) :: ((1, 18) :: ((1, 17) :: ((1, 16) :: ((1, 15) :: ((1, 14) :: ((1, 13) :: ((15, 4) :: ((14, 4) :: ((13, 4) :: ((12, 4) :: ((11, 4) :: ((10, 8) :: ((9, 8) :: ((8, 8) :: ((7, 8) :: ((6, 24) :: ((5, 24) :: l))))))))))))))))))) 24 s0 s9) := by
  unfold f_X4_copyFrom_52
  have h := cpi_b (b := 51) (d := 24) h (by decide)
  refine pq_b (c_X11_copyRow_29_56 _) (fun _ s2 es2 => ?_)
  have h := cpi_a (b := 51) (d := 24) (j := 5) (n := 24) h (by decide) (by decide) es2
  refine pq_b (c_X11_copyRow_30_57 _) (fun _ s4 es4 => ?_)
  have h := cpi_a (b := 51) (d := 24) (j := 6) (n := 24) h (by decide) (by decide) es4
  refine pq_b (c_X11_copyRow_31_58 _) (fun _ s6 es6 => ?_)
  have h := cpi_a (b := 51) (d := 24) (j := 7) (n := 8) h (by decide) (by decide) es6
  refine pq_b (c_X11_copyRow_32_59 _) (fun _ s8 es8 => ?_)
  have h := cpi_a (b := 51) (d := 24) (j := 8) (n := 8) h (by decide) (by decide) es8
  refine pq_b (c_X11_copyRow_33_60 _) (fun _ s10 es10 => ?_)
  have h := cpi_a (b := 51) (d := 24) (j := 9) (n := 8) h (by decide) (by decide) es10
  refine pq_b (c_X11_copyRow_34_61 _) (fun _ s12 es12 => ?_)
  have h := cpi_a (b := 51) (d := 24) (j := 10) (n := 8) h (by decide) (by decide) es12
  refine pq_b (c_X11_copyRow_35_62 _) (fun _ s14 es14 => ?_)
  have h := cpi_a (b := 51) (d := 24) (j := 11) (n := 4) h (by decide) (by decide) es14
  refine pq_b (c_X11_copyRow_36_63 _) (fun _ s16 es16 => ?_)
  have h := cpi_a (b := 51) (d := 24) (j := 12) (n := 4) h (by decide) (by decide) es16
  refine pq_b (c_X11_copyRow_37_64 _) (fun _ s18 es18 => ?_)
  have h := cpi_a (b := 51) (d := 24) (j := 13) (n := 4) h (by decide) (by decide) es18
  refine pq_b (c_X11_copyRow_38_65 _) (fun _ s20 es20 => ?_)
  have h := cpi_a (b := 51) (d := 24) (j := 14) (n := 4) h (by decide) (by decide) es20
  refine pq_b (c_X11_copyRow_39_66 _) (fun _ s22 es22 => ?_)
  have h := cpi_a (b := 51) (d := 24) (j := 15) (n := 4) h (by decide) (by decide) es22
  refine pq_n (fun s23 es23 => ?_)
  have h := cpi_f (b := 51) (d := 24) (j := 1) (k := 12) h (by decide) (by decide) (Or.inr rfl)
  have h := cpi_f (b := 51) (d := 24) (j := 1) (k := 13) h (by decide) (by decide) (Or.inl (Nat.le_refl _))
  have h := cpi_e h es23
  refine pq_n (fun s24 es24 => ?_)
  have h := cpi_f (b := 51) (d := 24) (j := 1) (k := 14) h (by decide) (by decide) (Or.inl (Nat.le_refl _))
  have h := cpi_f (b := 51) (d := 24) (j := 1) (k := 15) h (by decide) (by decide) (Or.inl (Nat.le_refl _))
  have h := cpi_e h es24
  refine pq_n (fun s25 es25 => ?_)
  have h := cpi_f (b := 51) (d := 24) (j := 1) (k := 16) h (by decide) (by decide) (Or.inl (Nat.le_refl _))
  have h := cpi_f (b := 51) (d := 24) (j := 1) (k := 17) h (by decide) (by decide) (Or.inl (Nat.le_refl _))
  have h := cpi_e h es25
  refine pq_c (fun _ => ?_)
  have h := cpi_f (b := 51) (d := 24) (j := 1) (k := 18) h (by decide) (by decide) (Or.inl (Nat.le_refl _))
  have h := cpi_f (b := 51) (d := 24) (j := 1) (k := 19) h (by decide) (by decide) (Or.inl (Nat.le_refl _))
  exact pq_s h
theorem cq_X2_copyFrom_53 {l : List (Nat × Nat)} {nn : Nat}{s0 s : Sg} (h : CpI 51 24 l nn s0 s) : PQ (f_X2_copyFrom_53 s) (fun _ s9 => CpI 51 24 ((2, 13) :: ((2, 12) :: ((2, 11) :: ((2, 10) :: ((2, 9) :: ((2, 8) :: ((2, 7) :: ((2, 6) :: ((20, 4) :: ((19, 8) :: ((18, 8) :: ((17, 8) :: ((16, 8) :: l))))))))))))) nn s0 s9) := by
  unfold f_X2_copyFrom_53
  refine pq_b (c_X11_copyRow_40_67 _) (fun _ s2 es2 => ?_)
  have h := cpi_a (b := 51) (d := 24) (j := 16) (n := 8) h (by decide) (by decide) es2
  refine pq_b (c_X11_copyRow_41_68 _) (fun _ s4 es4 => ?_)
  have h := cpi_a (b := 51) (d := 24) (j := 17) (n := 8) h (by decide) (by decide) es4
  refine pq_b (c_X11_copyRow_42_69 _) (fun _ s6 es6 => ?_)
  have h := cpi_a (b := 51) (d := 24) (j := 18) (n := 8) h (by decide) (by decide) es6
  refine pq_b (c_X11_copyRow_43_70 _) (fun _ s8 es8 => ?_)
  have h := cpi_a (b := 51) (d := 24) (j := 19) (n := 8) h (by decide) (by decide) es8
  refine pq_b (c_X11_copyRow_44_71 _) (fun _ s10 es10 => ?_)
  have h := cpi_a (b := 51) (d := 24) (j := 20) (n := 4) h (by decide) (by decide) es10
  refine pq_n (fun s11 es11 => ?_)
  have h := cpi_f (b := 51) (d := 24) (j := 2) (k := 5) h (by decide) (by decide) (Or.inr rfl)
  have h := cpi_f (b := 51) (d := 24) (j := 2) (k := 6) h (by decide) (by decide) (Or.inl (Nat.le_refl _))
  have h := cpi_e h es11
  refine pq_c (fun _ => ?_)
  refine pq_n (fun s13 es13 => ?_)
  have h := cpi_f (b := 51) (d := 24) (j := 2) (k := 7) h (by decide) (by decide) (Or.inl (Nat.le_refl _))
  have h := cpi_f (b := 51) (d := 24) (j := 2) (k := 8) h (by decide) (by decide) (Or.inl (Nat.le_refl _))
  have h := cpi_e h es13
  refine pq_n (fun s14 es14 => ?_)
  have h := cpi_f (b := 51) (d := 24) (j := 2) (k := 9) h (by decide) (by decide) (Or.inl (Nat.le_refl _))
  have h := cpi_f (b := 51) (d := 24) (j := 2) (k := 10) h (by decide) (by decide) (Or.inl (Nat.le_refl _))
  have h := cpi_e h es14
  refine pq_n (fun s15 es15 => ?_)
  have h := cpi_f (b := 51) (d := 24) (j := 2) (k := 11) h (by decide) (by decide) (Or.inl (Nat.le_refl _))
  have h := cpi_f (b := 51) (d := 24) (j := 2) (k := 12) h (by decide) (by decide) (Or.inl (Nat.le_refl _))
  have h := cpi_e h es15
  exact pq_s h
theorem cq_X5_copyFrom_54 {l : List (Nat × Nat)} {nn : Nat}{s0 s : Sg} (h : CpI 51 24 l nn s0 s) : PQ (f_X5_copyFrom_54 s) (fun _ s9 => CpI 51 24 ((3, 9) :: ((3, 8) :: ((3, 7) :: ((26, 60) :: ((25, 60) :: ((24, 60) :: ((23, 60) :: ((22, 60) :: ((21, 60) :: l))))))))) nn s0 s9) := by
  unfold f_X5_copyFrom_54
  refine pq_b (c_X11_copyRow_45_72 _) (fun _ s2 es2 => ?_)
  have h := cpi_a (b := 51) (d := 24) (j := 21) (n := 60) h (by decide) (by decide) es2
  refine pq_b (c_X11_copyRow_46_73 _) (fun _ s4 es4 => ?_)
  have h := cpi_a (b := 51) (d := 24) (j := 22) (n := 60) h (by decide) (by decide) es4
  refine pq_b (c_X11_copyRow_47_74 _) (fun _ s6 es6 => ?_)
  have h := cpi_a (b := 51) (d := 24) (j := 23) (n := 60) h (by decide) (by decide) es6
  refine pq_b (c_X11_copyRow_48_75 _) (fun _ s8 es8 => ?_)
  have h := cpi_a (b := 51) (d := 24) (j := 24) (n := 60) h (by decide) (by decide) es8
  refine pq_b (c_X11_copyRow_49_76 _) (fun _ s10 es10 => ?_)
  have h := cpi_a (b := 51) (d := 24) (j := 25) (n := 60) h (by decide) (by decide) es10
  refine pq_b (c_X11_copyRow_50_77 _) (fun _ s12 es12 => ?_)
  have h := cpi_a (b := 51) (d := 24) (j := 26) (n := 60) h (by decide) (by decide) es12
  refine pq_c (fun _ => ?_)
  refine pq_n (fun s14 es14 => ?_)
  have h := cpi_f (b := 51) (d := 24) (j := 3) (k := 6) h (by decide) (by decide) (Or.inr rfl)
  have h := cpi_f (b := 51) (d := 24) (j := 3) (k := 7) h (by decide) (by decide) (Or.inl (Nat.le_refl _))
  have h := cpi_e h es14
  have h := cpi_f (b := 51) (d := 24) (j := 3) (k := 8) h (by decide) (by decide) (Or.inl (Nat.le_refl _))
  exact pq_s h
theorem cq_X2_copyFrom_26_53 {l : List (Nat × Nat)} {nn : Nat}{s0 s : Sg} (h : CpI 24 51 l nn s0 s) : PQ (f_X2_copyFrom_26_53 s) (fun _ s9 => CpI 24 51 ((2, 13) :: ((2, 12) :: ((2, 11) :: ((2, 10) :: ((2, 9) :: ((2, 8) :: ((2, 7) :: ((2, 6) :: ((20, 4) :: ((19, 8) :: ((18, 8) :: ((17, 8) :: ((16, 8) :: l))))))))))))) nn s0 s9) := by
  unfold f_X2_copyFrom_26_53
  refine pq_b (c_X11_copyRow_67_40 _) (fun _ s2 es2 => ?_)
  have h := cpi_a (b := 24) (d := 51) (j := 16) (n := 8) h (by decide) (by decide) es2
  refine pq_b (c_X11_copyRow_68_41 _) (fun _ s4 es4 => ?_)
  have h := cpi_a (b := 24) (d := 51) (j := 17) (n := 8) h (by decide) (by decide) es4
  refine pq_b (c_X11_copyRow_69_42 _) (fun _ s6 es6 => ?_)
  have h := cpi_a (b := 24) (d := 51) (j := 18) (n := 8) h (by decide) (by decide) es6
  refine pq_b (c_X11_copyRow_70_43 _) (fun _ s8 es8 => ?_)
  have h := cpi_a (b := 24) (d := 51) (j := 19) (n := 8) h (by decide) (by decide) es8
  refine pq_b (c_X11_copyRow_71_44 _) (fun _ s10 es10 => ?_)
  have h := cpi_a (b := 24) (d := 51) (j := 20) (n := 4) h (by decide) (by decide) es10
  refine pq_n (fun s11 es11 => ?_)
  have h := cpi_f (b := 24) (d := 51) (j := 2) (k := 5) h (by decide) (by decide) (Or.inr rfl)
  have h := cpi_f (b := 24) (d := 51) (j := 2) (k := 6) h (by decide) (by decide) (Or.inl (Nat.le_refl _))
  have h := cpi_e h es11
  refine pq_c (fun _ => ?_)
  refine pq_n (fun s13 es13 => ?_)
  have h := cpi_f (b := 24) (d := 51) (j := 2) (k := 7) h (by decide) (by decide) (Or.inl (Nat.le_refl _))
  have h := cpi_f (b := 24) (d := 51) (j := 2) (k := 8) h (by decide) (by decide) (Or.inl (Nat.le_refl _))
  have h := cpi_e h es13
  refine pq_n (fun s14 es14 => ?_)
  have h := cpi_f (b := 24) (d := 51) (j := 2) (k := 9) h (by decide) (by decide) (Or.inl (Nat.le_refl _))
  have h := cpi_f (b := 24) (d := 51) (j := 2) (k := 10) h (by decide) (by decide) (Or.inl (Nat.le_refl _))
  have h := cpi_e h es14
  refine pq_n (fun s15 es15 => ?_)
  have h := cpi_f (b := 24) (d := 51) (j := 2) (k := 11) h (by decide) (by decide) (Or.inl (Nat.le_refl _))
  have h := cpi_f (b := 24) (d := 51) (j := 2) (k := 12) h (by decide) (by decide) (Or.inl (Nat.le_refl _))
  have h := cpi_e h es15
  exact pq_s h
theorem cq_X4_copyFrom_25_79 {l : List (Nat × Nat)} {s0 s : Sg} (h : CpI 24 78 l 0 s0 s) : PQ (f_X4_copyFrom_25_79 s) (fun _ s9 => CpI 24 78 ((1, 20) :: ((1, 19) :: ((1, 18) :: ((1, 17) :: ((1, 16) :: ((1, 15) :: ((1, 14) :: ((1, 13) :: ((15, 4) :: ((14, 4) :: ((13, 4) :: ((12, 4) :: ((11, 4) :: ((10, 8) :: ((9, 8) :: ((8, 8) :: ((7, 8) :: ((6, 24) :: ((5, 24) :: l))))))))))))))))))) 24 s0 s9) := by
  unfold f_X4_copyFrom_25_79
  have h := cpi_b (b := 24) (d := 78) h (by decide)
  refine pq_b (c_X11_copyRow_83_29 _) (fun _ s2 es2 => ?_)
  have h := cpi_a (b := 24) (d := 78) (j := 5) (n := 24) h (by decide) (by decide) es2
  refine pq_b (c_X11_copyRow_84_30 _) (fun _ s4 es4 => ?_)
  have h := cpi_a (b := 24) (d := 78) (j := 6) (n := 24) h (by decide) (by decide) es4
  refine pq_b (c_X11_copyRow_85_31 _) (fun _ s6 es6 => ?_)
  have h := cpi_a (b := 24) (d := 78) (j := 7) (n := 8) h (by decide) (by decide) es6
  refine pq_b (c_X11_copyRow_86_32 _) (fun _ s8 es8 => ?_)
  have h := cpi_a (b := 24) (d := 78) (j := 8) (n := 8) h (by decide) (by decide) es8
  refine pq_b (c_X11_copyRow_87_33 _) (fun _ s10 es10 => ?_)
  have h := cpi_a (b := 24) (d := 78) (j := 9) (n := 8) h (by decide) (by decide) es10
  refine pq_b (c_X11_copyRow_88_34 _) (fun _ s12 es12 => ?_)
  have h := cpi_a (b := 24) (d := 78) (j := 10) (n := 8) h (by decide) (by decide) es12
  refine pq_b (c_X11_copyRow_89_35 _) (fun _ s14 es14 => ?_)
  have h := cpi_a (b := 24) (d := 78) (j := 11) (n := 4) h (by decide) (by decide) es14
  refine pq_b (c_X11_copyRow_90_36 _) (fun _ s16 es16 => ?_)
  have h := cpi_a (b := 24) (d := 78) (j := 12) (n := 4) h (by decide) (by decide) es16
  refine pq_b (c_X11_copyRow_91_37 _) (fun _ s18 es18 => ?_)
  have h := cpi_a (b := 24) (d := 78) (j := 13) (n := 4) h (by decide) (by decide) es18
  refine pq_b (c_X11_copyRow_92_38 _) (fun _ s20 es20 => ?_)
  have h := cpi_a (b := 24) (d := 78) (j := 14) (n := 4) h (by decide) (by decide) es20
  refine pq_b (c_X11_copyRow_93_39 _) (fun _ s22 es22 => ?_)
  have h := cpi_a (b := 24) (d := 78) (j := 15) (n := 4) h (by decide) (by decide) es22
  refine pq_n (fun s23 es23 => ?_)
  have h := cpi_f (b := 24) (d := 78) (j := 1) (k := 12) h (by decide) (by decide) (Or.inr rfl)
  have h := cpi_f (b := 24) (d := 78) (j := 1) (k := 13) h (by decide) (by decide) (Or.inl (Nat.le_refl _))
  have h := cpi_e h es23
  refine pq_n (fun s24 es24 => ?_)
  have h := cpi_f (b := 24) (d := 78) (j := 1) (k := 14) h (by decide) (by decide) (Or.inl (Nat.le_refl _))
  have h := cpi_f (b := 24) (d := 78) (j := 1) (k := 15) h (by decide) (by decide) (Or.inl (Nat.le_refl _))
  have h := cpi_e h es24
  refine pq_n (fun s25 es25 => ?_)
  have h := cpi_f (b := 24) (d := 78) (j := 1) (k := 16) h (by decide) (by decide) (Or.inl (Nat.le_refl _))
  have h := cpi_f (b := 24) (d := 78) (j := 1) (k := 17) h (by decide) (by decide) (Or.inl (Nat.le_refl _))
  have h := cpi_e h es25
  refine pq_c (fun _ => ?_)
  have h := cpi_f (b := 24) (d := 78) (j := 1) (k := 18) h (by decide) (by decide) (Or.inl (Nat.le_refl _))
  have h := cpi_f (b := 24) (d := 78) (j := 1) (k := 19) h (by decide) (by decide) (Or.inl (Nat.le_refl _))
  exact pq_s h
theorem cq_X2_copyFrom_26_80 {l : List (Nat × Nat)} {nn : Nat}{s0 s : Sg} (h : CpI 24 78 l nn s0 s) : PQ (f_X2_copyFrom_26_80 s) (fun _ s9 => CpI 24 78 ((2, 13) :: ((2, 12) :: ((2, 11) :: ((2, 10) :: ((2, 9) :: ((2, 8) :: ((2, 7) :: ((2, 6) :: ((20, 4) :: ((19, 8) :: ((18, 8) :: ((17, 8) :: ((16, 8) :: l))))))))))))) nn s0 s9) := by
  unfold f_X2_copyFrom_26_80
  refine pq_b (c_X11_copyRow_94_40 _) (fun _ s2 es2 => ?_)
  have h := cpi_a (b := 24) (d := 78) (j := 16) (n := 8) h (by decide) (by decide) es2
  refine pq_b (c_X11_copyRow_95_41 _) (fun _ s4 es4 => ?_)
  have h := cpi_a (b := 24) (d := 78) (j := 17) (n := 8) h (by decide) (by decide) es4
  refine pq_b (c_X11_copyRow_96_42 _) (fun _ s6 es6 => ?_)
  have h := cpi_a (b := 24) (d := 78) (j := 18) (n := 8) h (by decide) (by decide) es6
  refine pq_b (c_X11_copyRow_97_43 _) (fun _ s8 es8 => ?_)
  have h := cpi_a (b := 24) (d := 78) (j := 19) (n := 8) h (by decide) (by decide) es8
  refine pq_b (c_X11_copyRow_98_44 _) (fun _ s10 es10 => ?_)
  have h := cpi_a (b := 24) (d := 78) (j := 20) (n := 4) h (by decide) (by decide) es10
  refine pq_n (fun s11 es11 => ?_)
  have h := cpi_f (b := 24) (d := 78) (j := 2) (k := 5) h (by decide) (by decide) (Or.inr rfl)
  have h := cpi_f (b := 24) (d := 78) (j := 2) (k := 6) h (by decide) (by decide) (Or.inl (Nat.le_refl _))
  have h := cpi_e h es11
  refine pq_c (fun _ => ?_)
  refine pq_n (fun s13 es13 => ?_)
  have h := cpi_f (b := 24) (d := 78) (j := 2) (k := 7) h (by decide) (by decide) (Or.inl (Nat.le_refl _))
  have h := cpi_f (b := 24) (d := 78) (j := 2) (k := 8) h (by decide) (by decide) (Or.inl (Nat.le_refl _))
  have h := cpi_e h es13
  refine pq_n (fun s14 es14 => ?_)
  have h := cpi_f (b := 24) (d := 78) (j := 2) (k := 9) h (by decide) (by decide) (Or.inl (Nat.le_refl _))
  have h := cpi_f (b := 24) (d := 78) (j := 2) (k := 10) h (by decide) (by decide) (Or.inl (Nat.le_refl _))
  have h := cpi_e h es14
  refine pq_n (fun s15 es15 => ?_)
  have h := cpi_f (b := 24) (d := 78) (j := 2) (k := 11) h (by decide) (by decide) (Or.inl (Nat.le_refl _))
  have h := cpi_f (b := 24) (d := 78) (j := 2) (k := 12) h (by decide) (by decide) (Or.inl (Nat.le_refl _))
  have h := cpi_e h es15
  exact pq_s h
theorem cq_X5_copyFrom_27_81 {l : List (Nat × Nat)} {nn : Nat}{s0 s : Sg} (h : CpI 24 78 l nn s0 s) : PQ (f_X5_copyFrom_27_81 s) (fun _ s9 => CpI 24 78 ((3, 9) :: ((3, 8) :: ((3, 7) :: ((26, 60) :: ((25, 60) :: ((24, 60) :: ((23, 60) :: ((22, 60) :: ((21, 60) :: l))))))))) nn s0 s9) := by
  unfold f_X5_copyFrom_27_81
  refine pq_b (c_X11_copyRow_99_45 _) (fun _ s2 es2 => ?_)
  have h := cpi_a (b := 24) (d := 78) (j := 21) (n := 60) h (by decide) (by decide) es2
  refine pq_b (c_X11_copyRow_100_46 _) (fun _ s4 es4 => ?_)
  have h := cpi_a (b := 24) (d := 78) (j := 22) (n := 60) h (by decide) (by decide) es4
  refine pq_b (c_X11_copyRow_101_47 _) (fun _ s6 es6 => ?_)
  have h := cpi_a (b := 24) (d := 78) (j := 23) (n := 60) h (by decide) (by decide) es6
  refine pq_b (c_X11_copyRow_102_48 _) (fun _ s8 es8 => ?_)
  have h := cpi_a (b := 24) (d := 78) (j := 24) (n := 60) h (by decide) (by decide) es8
  refine pq_b (c_X11_copyRow_103_49 _) (fun _ s10 es10 => ?_)
  have h := cpi_a (b := 24) (d := 78) (j := 25) (n := 60) h (by decide) (by decide) es10
  refine pq_b (c_X11_copyRow_104_50 _) (fun _ s12 es12 => ?_)
  have h := cpi_a (b := 24) (d := 78) (j := 26) (n := 60) h (by decide) (by decide) es12
  refine pq_c (fun _ => ?_)
  refine pq_n (fun s14 es14 => ?_)
  have h := cpi_f (b := 24) (d := 78) (j := 3) (k := 6) h (by decide) (by decide) (Or.inr rfl)
  have h := cpi_f (b := 24) (d := 78) (j := 3) (k := 7) h (by decide) (by decide) (Or.inl (Nat.le_refl _))
  have h := cpi_e h es14
  have h := cpi_f (b := 24) (d := 78) (j := 3) (k := 8) h (by decide) (by decide) (Or.inl (Nat.le_refl _))
  exact pq_s h
theorem cq_X4_copyFrom_25_106 {l : List (Nat × Nat)} {s0 s : Sg} (h : CpI 24 105 l 0 s0 s) : PQ (f_X4_copyFrom_25_106 s) (fun _ s9 => CpI 24 105 ((1, 20) :: ((1, 19) :: ((1, 18) :: ((1, 17) :: ((1, 16) :: ((1, 15) :: ((1, 14) :: ((1, 13) :: ((15, 4) :: ((14, 4) :: ((13, 4) :: ((12, 4) :: ((11, 4) :: ((10, 8) :: ((9, 8) :: ((8, 8) :: ((7, 8) :: ((6, 24) :: ((5, 24) :: l))))))))))))))))))) 24 s0 s9) := by
  unfold f_X4_copyFrom_25_106
  have h := cpi_b (b := 24) (d := 105) h (by decide)
  refine pq_b (c_X11_copyRow_110_29 _) (fun _ s2 es2 => ?_)
  have h := cpi_a (b := 24) (d := 105) (j := 5) (n := 24) h (by decide) (by decide) es2
  refine pq_b (c_X11_copyRow_111_30 _) (fun _ s4 es4 => ?_)
  have h := cpi_a (b := 24) (d := 105) (j := 6) (n := 24) h (by decide) (by decide) es4
  refine pq_b (c_X11_copyRow_112_31 _) (fun _ s6 es6 => ?_)
  have h := cpi_a (b := 24) (d := 105) (j := 7) (n := 8) h (by decide) (by decide) es6
  refine pq_b (c_X11_copyRow_113_32 _) (fun _ s8 es8 => ?_)
  have h := cpi_a (b := 24) (d := 105) (j := 8) (n := 8) h (by decide) (by decide) es8
  refine pq_b (c_X11_copyRow_114_33 _) (fun _ s10 es10 => ?_)
  have h := cpi_a (b := 24) (d := 105) (j := 9) (n := 8) h (by decide) (by decide) es10
  refine pq_b (c_X11_copyRow_115_34 _) (fun _ s12 es12 => ?_)
  have h := cpi_a (b := 24) (d := 105) (j := 10) (n := 8) h (by decide) (by decide) es12
  refine pq_b (c_X11_copyRow_116_35 _) (fun _ s14 es14 => ?_)
  have h := cpi_a (b := 24) (d := 105) (j := 11) (n := 4) h (by decide) (by decide) es14
  refine pq_b (c_X11_copyRow_117_36 _) (fun _ s16 es16 => ?_)
  have h := cpi_a (b := 24) (d := 105) (j := 12) (n := 4) h (by decide) (by decide) es16
  refine pq_b (c_X11_copyRow_118_37 _) (fun _ s18 es18 => ?_)
  have h := cpi_a (b := 24) (d := 105) (j := 13) (n := 4) h (by decide) (by decide) es18
  refine pq_b (c_X11_copyRow_119_38 _) (fun _ s20 es20 => ?_)
  have h := cpi_a (b := 24) (d := 105) (j := 14) (n := 4) h (by decide) (by decide) es20
  refine pq_b (c_X11_copyRow_120_39 _) (fun _ s22 es22 => ?_)
  have h := cpi_a (b := 24) (d := 105) (j := 15) (n := 4) h (by decide) (by decide) es22
  refine pq_n (fun s23 es23 => ?_)
  have h := cpi_f (b := 24) (d := 105) (j := 1) (k := 12) h (by decide) (by decide) (Or.inr rfl)
  have h := cpi_f (b := 24) (d := 105) (j := 1) (k := 13) h (by decide) (by decide) (Or.inl (Nat.le_refl _))
  have h := cpi_e h es23
  refine pq_n (fun s24 es24 => ?_)
  have h := cpi_f (b := 24) (d := 105) (j := 1) (k := 14) h (by decide) (by decide) (Or.inl (Nat.le_refl _))
  have h := cpi_f (b := 24) (d := 105) (j := 1) (k := 15) h (by decide) (by decide) (Or.inl (Nat.le_refl _))
  have h := cpi_e h es24
  refine pq_n (fun s25 es25 => ?_)
  have h := cpi_f (b := 24) (d := 105) (j := 1) (k := 16) h (by decide) (by decide) (Or.inl (Nat.le_refl _))
  have h := cpi_f (b := 24) (d := 105) (j := 1) (k := 17) h (by decide) (by decide) (Or.inl (Nat.le_refl _))
  have h := cpi_e h es25
  refine pq_c (fun _ => ?_)
  have h := cpi_f (b := 24) (d := 105) (j := 1) (k := 18) h (by decide) (by decide) (Or.inl (Nat.le_refl _))
  have h := cpi_f (b := 24) (d := 105) (j := 1) (k := 19) h (by decide) (by decide) (Or.inl (Nat.le_refl _))
  exact pq_s h
theorem cq_X2_copyFrom_26_107 {l : List (Nat × Nat)} {nn : Nat}{s0 s : Sg} (h : CpI 24 105 l nn s0 s) : PQ (f_X2_copyFrom_26_107 s) (fun _ s9 => CpI 24 105 ((2, 13) :: ((2, 12) :: ((2, 11) :: ((2, 10) :: ((2, 9) :: ((2, 8) :: ((2, 7) :: ((2, 6) :: ((20, 4) :: ((19, 8) :: ((18, 8) :: ((17, 8) :: ((16, 8) :: l))))))))))))) nn s0 s9) := by
  unfold f_X2_copyFrom_26_107
  refine pq_b (c_X11_copyRow_121_40 _) (fun _ s2 es2 => ?_)
  have h := cpi_a (b := 24) (d := 105) (j := 16) (n := 8) h (by decide) (by decide) es2
  refine pq_b (c_X11_copyRow_122_41 _) (fun _ s4 es4 => ?_)
  have h := cpi_a (b := 24) (d := 105) (j := 17) (n := 8) h (by decide) (by decide) es4
  refine pq_b (c_X11_copyRow_123_42 _) (fun _ s6 es6 => ?_)
  have h := cpi_a (b := 24) (d := 105) (j := 18) (n := 8) h (by decide) (by decide) es6
  refine pq_b (c_X11_copyRow_124_43 _) (fun _ s8 es8 => ?_)
  have h := cpi_a (b := 24) (d := 105) (j := 19) (n := 8) h (by decide) (by decide) es8
  refine pq_b (c_X11_copyRow_125_44 _) (fun _ s10 es10 => ?_)
  have h := cpi_a (b := 24) (d := 105) (j := 20) (n := 4) h (by decide) (by decide) es10
  refine pq_n (fun s11 es11 => ?_)
  have h := cpi_f (b := 24) (d := 105) (j := 2) (k := 5) h (by decide) (by decide) (Or.inr rfl)
  have h := cpi_f (b := 24) (d := 105) (j := 2) (k := 6) h (by decide) (by decide) (Or.inl (Nat.le_refl _))
  have h := cpi_e h es11
  refine pq_c (fun _ => ?_)
  refine pq_n (fun s13 es13 => ?_)
  have h := cpi_f (b := 24) (d := 105) (j := 2) (k := 7) h (by decide) (by decide) (Or.inl (Nat.le_refl _))
  have h := cpi_f (b := 24) (d := 105) (j := 2) (k := 8) h (by decide) (by decide) (Or.inl (Nat.le_refl _))
  have h := cpi_e h es13
  refine pq_n (fun s14 es14 => ?_)
  have h := cpi_f (b := 24) (d := 105) (j := 2) (k := 9) h (by decide) (by decide) (Or.inl (Nat.le_refl _))
  have h := cpi_f (b := 24) (d := 105) (j := 2) (k := 10) h (by decide) (by decide) (Or.inl (Nat.le_refl _))
  have h := cpi_e h es14
  refine pq_n (fun s15 es15 => ?_)
  have h := cpi_f (b := 24) (d := 105) (j := 2) (k := 11) h (by decide) (by decide) (Or.inl (Nat.le_refl _))
  have h := cpi_f (b := 24) (d := 105) (j := 2) (k := 12) h (by decide) (by decide) (Or.inl (Nat.le_refl _))
  have h := cpi_e h es15
  exact pq_s h
theorem cq_X5_copyFrom_27_108 {l : List (Nat × Nat)} {nn : Nat}{s0 s : Sg} (h : CpI 24 105 l nn s0 s) : PQ (f_X5_copyFrom_27_108 s) (fun _ s9 => CpI 24 105 ((3, 9) :: ((3, 8) :: ((3, 7) :: ((26, 60) :: ((25, 60) :: ((24, 60) :: ((23, 60) :: ((22, 60) :: ((21, 60) :: l))))))))) nn s0 s9) := by
  unfold f_X5_copyFrom_27_108
  refine pq_b (c_X11_copyRow_126_45 _) (fun _ s2 es2 => ?_)
  have h := cpi_a (b := 24) (d := 105) (j := 21) (n := 60) h (by decide) (by decide) es2
  refine pq_b (c_X11_copyRow_127_46 _) (fun _ s4 es4 => ?_)
  have h := cpi_a (b := 24) (d := 105) (j := 22) (n := 60) h (by decide) (by decide) es4
  refine pq_b (c_X11_copyRow_128_47 _) (fun _ s6 es6 => ?_)
  have h := cpi_a (b := 24) (d := 105) (j := 23) (n := 60) h (by decide) (by decide) es6
  refine pq_b (c_X11_copyRow_129_48 _) (fun _ s8 es8 => ?_)
  have h := cpi_a (b := 24) (d := 105) (j := 24) (n := 60) h (by decide) (by decide) es8
  refine pq_b (c_X11_copyRow_130_49 _) (fun _ s10 es10 => ?_)
  have h := cpi_a (b := 24) (d := 105) (j := 25) (n := 60) h (by decide) (by decide) es10
  refine pq_b (c_X11_copyRow_131_50 _) (fun _ s12 es12 => ?_)
  have h := cpi_a (b := 24) (d := 105) (j := 26) (n := 60) h (by decide) (by decide) es12
  refine pq_c (fun _ => ?_)
  refine pq_n (fun s14 es14 => ?_)
  have h := cpi_f (b := 24) (d := 105) (j := 3) (k := 6) h (by decide) (by decide) (Or.inr rfl)
  have h := cpi_f (b := 24) (d := 105) (j := 3) (k := 7) h (by decide) (by decide) (Or.inl (Nat.le_refl _))
  have h := cpi_e h es14
  have h := cpi_f (b := 24) (d := 105) (j := 3) (k := 8) h (by decide) (by decide) (Or.inl (Nat.le_refl _))
  exact pq_s h
theorem cq_X4_copyFrom_25_133 {l : List (Nat × Nat)} {s0 s : Sg} (h : CpI 24 132 l 0 s0 s) : PQ (f_X4_copyFrom_25_133 s) (fun _ s9 => CpI 24 132 ((1, 20) :: ((1, 19) :: ((1, 18) :: ((1, 17) :: ((1, 16) :: ((1, 15) :: ((1, 14) :: ((1, 13) :: ((15, 4) :: ((14, 4) :: ((13, 4) :: ((12, 4) :: ((11, 4) :: ((10, 8) :: ((9, 8) :: ((8, 8) :: ((7, 8) :: ((6, 24) :: ((5, 24) :: l))))))))))))))))))) 24 s0 s9) := by
  unfold f_X4_copyFrom_25_133
  have h := cpi_b (b := 24) (d := 132) h (by decide)
  refine pq_b (c_X11_copyRow_137_29 _) (fun _ s2 es2 => ?_)
  have h := cpi_a (b := 24) (d := 132) (j := 5) (n := 24) h (by decide) (by decide) es2
  refine pq_b (c_X11_copyRow_138_30 _) (fun _ s4 es4 => ?_)
  have h := cpi_a (b := 24) (d := 132) (j := 6) (n := 24) h (by decide) (by decide) es4
  refine pq_b (c_X11_copyRow_139_31 _) (fun _ s6 es6 => ?_)
  have h := cpi_a (b := 24) (d := 132) (j := 7) (n := 8) h (by decide) (by decide) es6
  refine pq_b (c_X11_copyRow_140_32 _) (fun _ s8 es8 => ?_)
  have h := cpi_a (b := 24) (d := 132) (j := 8) (n := 8) h (by decide) (by decide) es8
  refine pq_b (c_X11_copyRow_141_33 _) (fun _ s10 es10 => ?_)
  have h := cpi_a (b := 24) (d := 132) (j := 9) (n := 8) h (by decide) (by decide) es10
  refine pq_b (c_X11_copyRow_142_34 _) (fun _ s12 es12 => ?_)
  have h := cpi_a (b := 24) (d := 132) (j := 10) (n := 8) h (by decide) (by decide) es12
  refine pq_b (c_X11_copyRow_143_35 _) (fun _ s14 es14 => ?_)
  have h := cpi_a (b := 24) (d := 132) (j := 11) (n := 4) h (by decide) (by decide) es14
  refine pq_b (c_X11_copyRow_144_36 _) (fun _ s16 es16 => ?_)
  have h := cpi_a (b := 24) (d := 132) (j := 12) (n := 4) h (by decide) (by decide) es16
  refine pq_b (c_X11_copyRow_145_37 _) (fun _ s18 es18 => ?_)
  have h := cpi_a (b := 24) (d := 132) (j := 13) (n := 4) h (by decide) (by decide) es18
  refine pq_b (c_X11_copyRow_146_38 _) (fun _ s20 es20 => ?_)
  have h := cpi_a (b := 24) (d := 132) (j := 14) (n := 4) h (by decide) (by decide) es20
  refine pq_b (c_X11_copyRow_147_39 _) (fun _ s22 es22 => ?_)
  have h := cpi_a (b := 24) (d := 132) (j := 15) (n := 4) h (by decide) (by decide) es22
  refine pq_n (fun s23 es23 => ?_)
  have h := cpi_f (b := 24) (d := 132) (j := 1) (k := 12) h (by decide) (by decide) (Or.inr rfl)
  have h := cpi_f (b := 24) (d := 132) (j := 1) (k := 13) h (by decide) (by decide) (Or.inl (Nat.le_refl _))
  have h := cpi_e h es23
  refine pq_n (fun s24 es24 => ?_)
  have h := cpi_f (b := 24) (d := 132) (j := 1) (k := 14) h (by decide) (by decide) (Or.inl (Nat.le_refl _))
  have h := cpi_f (b := 24) (d := 132) (j := 1) (k := 15) h (by decide) (by decide) (Or.inl (Nat.le_refl _))
  have h := cpi_e h es24
  refine pq_n (fun s25 es25 => ?_)
  have h := cpi_f (b := 24) (d := 132) (j := 1) (k := 16) h (by decide) (by decide) (Or.inl (Nat.le_refl _))
  have h := cpi_f (b := 24) (d := 132) (j := 1) (k := 17) h (by decide) (by decide) (Or.inl (Nat.le_refl _))
  have h := cpi_e h es25
  refine pq_c (fun _ => ?_)
  have h := cpi_f (b := 24) (d := 132) (j := 1) (k := 18) h (by decide) (by decide) (Or.inl (Nat.le_refl _))
  have h := cpi_f (b := 24) (d := 132) (j := 1) (k := 19) h (by decide) (by decide) (Or.inl (Nat.le_refl _))
  exact pq_s h
theorem cq_X2_copyFrom_26_134 {l : List (Nat × Nat)} {nn : Nat}{s0 s : Sg} (h : CpI 24 132 l nn s0 s) : PQ (f_X2_copyFrom_26_134 s) (fun _ s9 => CpI 24 132 ((2, 13) :: ((2, 12) :: ((2, 11) :: ((2, 10) :: ((2, 9) :: ((2, 8) :: ((2, 7) :: ((2, 6) :: ((20, 4) :: ((19, 8) :: ((18, 8) :: ((17, 8) :: ((16, 8) :: l))))))))))))) nn s0 s9) := by
  unfold f_X2_copyFrom_26_134
  refine pq_b (c_X11_copyRow_148_40 _) (fun _ s2 es2 => ?_)
  have h := cpi_a (b := 24) (d := 132) (j := 16) (n := 8) h (by decide) (by decide) es2
  refine pq_b (c_X11_copyRow_149_41 _) (fun _ s4 es4 => ?_)
  have h := cpi_a (b := 24) (d := 132) (j := 17) (n := 8) h (by decide) (by decide) es4
  refine pq_b (c_X11_copyRow_150_42 _) (fun _ s6 es6 => ?_)
  have h := cpi_a (b := 24) (d := 132) (j := 18) (n := 8) h (by decide) (by decide) es6
  refine pq_b (c_X11_copyRow_151_43 _) (fun _ s8 es8 => ?_)
  have h := cpi_a (b := 24) (d := 132) (j := 19) (n := 8) h (by decide) (by decide) es8
  refine pq_b (c_X11_copyRow_152_44 _) (fun _ s10 es10 => ?_)
  have h := cpi_a (b := 24) (d := 132) (j := 20) (n := 4) h (by decide) (by decide) es10
  refine pq_n (fun s11 es11 => ?_)
  have h := cpi_f (b := 24) (d := 132) (j := 2) (k := 5) h (by decide) (by decide) (Or.inr rfl)
  have h := cpi_f (b := 24) (d := 132) (j := 2) (k := 6) h (by decide) (by decide) (Or.inl (Nat.le_refl _))
  have h := cpi_e h es11
  refine pq_c (fun _ => ?_)
  refine pq_n (fun s13 es13 => ?_)
  have h := cpi_f (b := 24) (d := 132) (j := 2) (k := 7) h (by decide) (by decide) (Or.inl (Nat.le_refl _))
  have h := cpi_f (b := 24) (d := 132) (j := 2) (k := 8) h (by decide) (by decide) (Or.inl (Nat.le_refl _))
  have h := cpi_e h es13
  refine pq_n (fun s14 es14 => ?_)
  have h := cpi_f (b := 24) (d := 132) (j := 2) (k := 9) h (by decide) (by decide) (Or.inl (Nat.le_refl _))
  have h := cpi_f (b := 24) (d := 132) (j := 2) (k := 10) h (by decide) (by decide) (Or.inl (Nat.le_refl _))
  have h := cpi_e h es14
  refine pq_n (fun s15 es15 => ?_)
  have h := cpi_f (b := 24) (d := 132) (j := 2) (k := 11) h (by decide) (by decide) (Or.inl (Nat.le_refl _))
  have h := cpi_f (b := 24) (d := 132) (j := 2) (k := 12) h (by decide) (by decide) (Or.inl (Nat.le_refl _))
  have h := cpi_e h es15
  exact pq_s h
theorem cq_X5_copyFrom_27_135 {l : List (Nat × Nat)} {nn : Nat}{s0 s : Sg} (h : CpI 24 132 l nn s0 s) : PQ (f_X5_copyFrom_27_135 s) (fun _ s9 => CpI 24 132 ((3, 9) :: ((3, 8) :: ((3, 7) :: ((26, 60) :: ((25, 60) :: ((24, 60) :: ((23, 60) :: ((22, 60) :: ((21, 60) :: l))))))))) nn s0 s9) := by
  unfold f_X5_copyFrom_27_135
  refine pq_b (c_X11_copyRow_153_45 _) (fun _ s2 es2 => ?_)
  have h := cpi_a (b := 24) (d := 132) (j := 21) (n := 60) h (by decide) (by decide) es2
  refine pq_b (c_X11_copyRow_154_46 _) (fun _ s4 es4 => ?_)
  have h := cpi_a (b := 24) (d := 132) (j := 22) (n := 60) h (by decide) (by decide) es4
  refine pq_b (c_X11_copyRow_155_47 _) (fun _ s6 es6 => ?_)
  have h := cpi_a (b := 24) (d := 132) (j := 23) (n := 60) h (by decide) (by decide) es6
  refine pq_b (c_X11_copyRow_156_48 _) (fun _ s8 es8 => ?_)
  have h := cpi_a (b := 24) (d := 132) (j := 24) (n := 60) h (by decide) (by decide) es8
  refine pq_b (c_X11_copyRow_157_49 _) (fun _ s10 es10 => ?_)
  have h := cpi_a (b := 24) (d := 132) (j := 25) (n := 60) h (by decide) (by decide) es10
  refine pq_b (c_X11_copyRow_158_50 _) (fun _ s12 es12 => ?_)
  have h := cpi_a (b := 24) (d := 132) (j := 26) (n := 60) h (by decide) (by decide) es12
  refine pq_c (fun _ => ?_)
  refine pq_n (fun s14 es14 => ?_)
  have h := cpi_f (b := 24) (d := 132) (j := 3) (k := 6) h (by decide) (by decide) (Or.inr rfl)
  have h := cpi_f (b := 24) (d := 132) (j := 3) (k := 7) h (by decide) (by decide) (Or.inl (Nat.le_refl _))
  have h := cpi_e h es14
  have h := cpi_f (b := 24) (d := 132) (j := 3) (k := 8) h (by decide) (by decide) (Or.inl (Nat.le_refl _))
  exact pq_s h
theorem cq_X4_copyFrom_79 {l : List (Nat × Nat)} {s0 s : Sg} (h : CpI 78 24 l 0 s0 s) : PQ (f_X4_copyFrom_79 s) (fun _ s9 => CpI 78 24 ((1, 20) :: ((1, 19) :: ((1, 18) :: ((1, 17) :: ((1, 16) :: ((1, 15) :: ((1, 14) :: ((1, 13) :: ((15, 4) :: ((14, 4) :: ((13, 4) :: ((12, 4) :: ((11, 4) :: ((10, 8) :: ((9, 8) :: ((8, 8) :: ((7, 8) :: ((6, 24) :: ((5, 24) :: l))))))))))))))))))) 24 s0 s9) := by
  unfold f_X4_copyFrom_79
  have h := cpi_b (b := 78) (d := 24) h (by decide)
  refine pq_b (c_X11_copyRow_29_83 _) (fun _ s2 es2 => ?_)
  have h := cpi_a (b := 78) (d := 24) (j := 5) (n := 24) h (by decide) (by decide) es2
  refine pq_b (c_X11_copyRow_30_84 _) (fun _ s4 es4 => ?_)
  have h := cpi_a (b := 78) (d := 24) (j := 6) (n := 24) h (by decide) (by decide) es4
  refine pq_b (c_X11_copyRow_31_85 _) (fun _ s6 es6 => ?_)
  have h := cpi_a (b := 78) (d := 24) (j := 7) (n := 8) h (by decide) (by decide) es6
  refine pq_b (c_X11_copyRow_32_86 _) (fun _ s8 es8 => ?_)
  have h := cpi_a (b := 78) (d := 24) (j := 8) (n := 8) h (by decide) (by decide) es8
  refine pq_b (c_X11_copyRow_33_87 _) (fun _ s10 es10 => ?_)
  have h := cpi_a (b := 78) (d := 24) (j := 9) (n := 8) h (by decide) (by decide) es10
  refine pq_b (c_X11_copyRow_34_88 _) (fun _ s12 es12 => ?_)
  have h := cpi_a (b := 78) (d := 24) (j := 10) (n := 8) h (by decide) (by decide) es12
  refine pq_b (c_X11_copyRow_35_89 _) (fun _ s14 es14 => ?_)
  have h := cpi_a (b := 78) (d := 24) (j := 11) (n := 4) h (by decide) (by decide) es14
  refine pq_b (c_X11_copyRow_36_90 _) (fun _ s16 es16 => ?_)
  have h := cpi_a (b := 78) (d := 24) (j := 12) (n := 4) h (by decide) (by decide) es16
  refine pq_b (c_X11_copyRow_37_91 _) (fun _ s18 es18 => ?_)
  have h := cpi_a (b := 78) (d := 24) (j := 13) (n := 4) h (by decide) (by decide) es18
  refine pq_b (c_X11_copyRow_38_92 _) (fun _ s20 es20 => ?_)
  have h := cpi_a (b := 78) (d := 24) (j := 14) (n := 4) h (by decide) (by decide) es20
  refine pq_b (c_X11_copyRow_39_93 _) (fun _ s22 es22 => ?_)
  have h := cpi_a (b := 78) (d := 24) (j := 15) (n := 4) h (by decide) (by decide) es22
  refine pq_n (fun s23 es23 => ?_)
  have h := cpi_f (b := 78) (d := 24) (j := 1) (k := 12) h (by decide) (by decide) (Or.inr rfl)
  have h := cpi_f (b := 78) (d := 24) (j := 1) (k := 13) h (by decide) (by decide) (Or.inl (Nat.le_refl _))
  have h := cpi_e h es23
  refine pq_n (fun s24 es24 => ?_)
  have h := cpi_f (b := 78) (d := 24) (j := 1) (k := 14) h (by decide) (by decide) (Or.inl (Nat.le_refl _))
  have h := cpi_f (b := 78) (d := 24) (j := 1) (k := 15) h (by decide) (by decide) (Or.inl (Nat.le_refl _))
  have h := cpi_e h es24
  refine pq_n (fun s25 es25 => ?_)
  have h := cpi_f (b := 78) (d := 24) (j := 1) (k := 16) h (by decide) (by decide) (Or.inl (Nat.le_refl _))
  have h := cpi_f (b := 78) (d := 24) (j := 1) (k := 17) h (by decide) (by decide) (Or.inl (Nat.le_refl _))
  have h := cpi_e h es25
  refine pq_c (fun _ => ?_)
  have h := cpi_f (b := 78) (d := 24) (j := 1) (k := 18) h (by decide) (by decide) (Or.inl (Nat.le_refl _))
  have h := cpi_f (b := 78) (d := 24) (j := 1) (k := 19) h (by decide) (by decide) (Or.inl (Nat.le_refl _))
  exact pq_s h
theorem cq_X2_copyFrom_80 {l : List (Nat × Nat)} {nn : Nat}{s0 s : Sg} (h : CpI 78 24 l nn s0 s) : PQ (f_X2_copyFrom_80 s) (fun _ s9 => CpI 78 24 ((2, 13) :: ((2, 12) :: ((2, 11) :: ((2, 10) :: ((2, 9) :: ((2, 8) :: ((2, 7) :: ((2, 6) :: ((20, 4) :: ((19, 8) :: ((18, 8) :: ((17, 8) :: ((16, 8) :: l))))))))))))) nn s0 s9) := by
  unfold f_X2_copyFrom_80
  refine pq_b (c_X11_copyRow_40_94 _) (fun _ s2 es2 => ?_)
  have h := cpi_a (b := 78) (d := 24) (j := 16) (n := 8) h (by decide) (by decide) es2
  refine pq_b (c_X11_copyRow_41_95 _) (fun _ s4 es4 => ?_)
  have h := cpi_a (b := 78) (d := 24) (j := 17) (n := 8) h (by decide) (by decide) es4
  refine pq_b (c_X11_copyRow_42_96 _) (fun _ s6 es6 => ?_)
  have h := cpi_a (b := 78) (d := 24) (j := 18) (n := 8) h (by decide) (by decide) es6
  refine pq_b (c_X11_copyRow_43_97 _) (fun _ s8 es8 => ?_)
  have h := cpi_a (b := 78) (d := 24) (j := 19) (n := 8) h (by decide) (by decide) es8
  refine pq_b (c_X11_copyRow_44_98 _) (fun _ s10 es10 => ?_)
  have h := cpi_a (b := 78) (d := 24) (j := 20) (n := 4) h (by decide) (by decide) es10
  refine pq_n (fun s11 es11 => ?_)
  have h := cpi_f (b := 78) (d := 24) (j := 2) (k := 5) h (by decide) (by decide) (Or.inr rfl)
  have h := cpi_f (b := 78) (d := 24) (j := 2) (k := 6) h (by decide) (by decide) (Or.inl (Nat.le_refl _))
  have h := cpi_e h es11
  refine pq_c (fun _ => ?_)
  refine pq_n (fun s13 es13 => ?_)
  have h := cpi_f (b := 78) (d := 24) (j := 2) (k := 7) h (by decide) (by decide) (Or.inl (Nat.le_refl _))
  have h := cpi_f (b := 78) (d := 24) (j := 2) (k := 8) h (by decide) (by decide) (Or.inl (Nat.le_refl _))
  have h := cpi_e h es13
  refine pq_n (fun s14 es14 => ?_)
  have h := cpi_f (b := 78) (d := 24) (j := 2) (k := 9) h (by decide) (by decide) (Or.inl (Nat.le_refl _))
  have h := cpi_f (b := 78) (d := 24) (j := 2) (k := 10) h (by decide) (by decide) (Or.inl (Nat.le_refl _))
  have h := cpi_e h es14
  refine pq_n (fun s15 es15 => ?_)
  have h := cpi_f (b := 78) (d := 24) (j := 2) (k := 11) h (by decide) (by decide) (Or.inl (Nat.le_refl _))
  have h := cpi_f (b := 78) (d := 24) (j := 2) (k := 12) h (by decide) (by decide) (Or.inl (Nat.le_refl _))
  have h := cpi_e h es15
  exact pq_s h
theorem cq_X5_copyFrom_81 {l : List (Nat × Nat)} {nn : Nat}{s0 s : Sg} (h : CpI 78 24 l nn s0 s) : PQ (f_X5_copyFrom_81 s) (fun _ s9 => CpI 78 24 ((3, 9) :: ((3, 8) :: ((3, 7) :: ((26, 60) :: ((25, 60) :: ((24, 60) :: ((23, 60) :: ((22, 60) :: ((21, 60) :: l))))))))) nn s0 s9) := by
  unfold f_X5_copyFrom_81
  refine pq_b (c_X11_copyRow_45_99 _) (fun _ s2 es2 => ?_)
  have h := cpi_a (b := 78) (d := 24) (j := 21) (n := 60) h (by decide) (by decide) es2
  refine pq_b (c_X11_copyRow_46_100 _) (fun _ s4 es4 => ?_)
  have h := cpi_a (b := 78) (d := 24) (j := 22) (n := 60) h (by decide) (by decide) es4
  refine pq_b (c_X11_copyRow_47_101 _) (fun _ s6 es6 => ?_)
  have h := cpi_a (b := 78) (d := 24) (j := 23) (n := 60) h (by decide) (by decide) es6
  refine pq_b (c_X11_copyRow_48_102 _) (fun _ s8 es8 => ?_)
  have h := cpi_a (b := 78) (d := 24) (j := 24) (n := 60) h (by decide) (by decide) es8
  refine pq_b (c_X11_copyRow_49_103 _) (fun _ s10 es10 => ?_)
  have h := cpi_a (b := 78) (d := 24) (j := 25) (n := 60) h (by decide) (by decide) es10
  refine pq_b (c_X11_copyRow_50_104 _) (fun _ s12 es12 => ?_)
  have h := cpi_a (b := 78) (d := 24) (j := 26) (n := 60) h (by decide) (by decide) es12
  refine pq_c (fun _ => ?_)
  refine pq_n (fun s14 es14 => ?_)
  have h := cpi_f (b := 78) (d := 24) (j := 3) (k := 6) h (by decide) (by decide) (Or.inr rfl)
  have h := cpi_f (b := 78) (d := 24) (j := 3) (k := 7) h (by decide) (by decide) (Or.inl (Nat.le_refl _))
  have h := cpi_e h es14
  have h := cpi_f (b := 78) (d := 24) (j := 3) (k := 8) h (by decide) (by decide) (Or.inl (Nat.le_refl _))
  exact pq_s h
theorem cq_X4_copyFrom_106 {l : List (Nat × Nat)} {s0 s : Sg} (h : CpI 105 24 l 0 s0 s) : PQ (f_X4_copyFrom_106 s) (fun _ s9 => CpI 105 24 ((1, 20) :: ((1, 19) :: ((1, 18) :: ((1, 17) :: ((1, 16) :: ((1, 15) :: ((1, 14) :: ((1, 13) :: ((15, 4) :: ((14, 4) :: ((13, 4) :: ((12, 4) :: ((11, 4) :: ((10, 8) :: ((9, 8) :: ((8, 8) :: ((7, 8) :: ((6, 24) :: ((5, 24) :: l))))))))))))))))))) 24 s0 s9) := by
  unfold f_X4_copyFrom_106
  have h := cpi_b (b := 105) (d := 24) h (by decide)
  refine pq_b (c_X11_copyRow_29_110 _) (fun _ s2 es2 => ?_)
  have h := cpi_a (b := 105) (d := 24) (j := 5) (n := 24) h (by decide) (by decide) es2
  refine pq_b (c_X11_copyRow_30_111 _) (fun _ s4 es4 => ?_)
  have h := cpi_a (b := 105) (d := 24) (j := 6) (n := 24) h (by decide) (by decide) es4
  refine pq_b (c_X11_copyRow_31_112 _) (fun _ s6 es6 => ?_)
  have h := cpi_a (b := 105) (d := 24) (j := 7) (n := 8) h (by decide) (by decide) es6
  refine pq_b (c_X11_copyRow_32_113 _) (fun _ s8 es8 => ?_)
  have h := cpi_a (b := 105) (d := 24) (j := 8) (n := 8) h (by decide) (by decide) es8
  refine pq_b (c_X11_copyRow_33_114 _) (fun _ s10 es10 => ?_)
  have h := cpi_a (b := 105) (d := 24) (j := 9) (n := 8) h (by decide) (by decide) es10
  refine pq_b (c_X11_copyRow_34_115 _) (fun _ s12 es12 => ?_)
  have h := cpi_a (b := 105) (d := 24) (j := 10) (n := 8) h (by decide) (by decide) es12
  refine pq_b (c_X11_copyRow_35_116 _) (fun _ s14 es14 => ?_)
  have h := cpi_a (b := 105) (d := 24) (j := 11) (n := 4) h (by decide) (by decide) es14
  refine pq_b (c_X11_copyRow_36_117 _) (fun _ s16 es16 => ?_)
  have h := cpi_a (b := 105) (d := 24) (j := 12) (n := 4) h (by decide) (by decide) es16
  refine pq_b (c_X11_copyRow_37_118 _) (fun _ s18 es18 => ?_)
  have h := cpi_a (b := 105) (d := 24) (j := 13) (n := 4) h (by decide) (by decide) es18
  refine pq_b (c_X11_copyRow_38_119 _) (fun _ s20 es20 => ?_)
  have h := cpi_a (b := 105) (d := 24) (j := 14) (n := 4) h (by decide) (by decide) es20
  refine pq_b (c_X11_copyRow_39_120 _) (fun _ s22 es22 => ?_)
  have h := cpi_a (b := 105) (d := 24) (j := 15) (n := 4) h (by decide) (by decide) es22
  refine pq_n (fun s23 es23 => ?_)
  have h := cpi_f (b := 105) (d := 24) (j := 1) (k := 12) h (by decide) (by decide) (Or.inr rfl)
  have h := cpi_f (b := 105) (d := 24) (j := 1) (k := 13) h (by decide) (by decide) (Or.inl (Nat.le_refl _))
  have h := cpi_e h es23
  refine pq_n (fun s24 es24 => ?_)
  have h := cpi_f (b := 105) (d := 24) (j := 1) (k := 14) h (by decide) (by decide) (Or.inl (Nat.le_refl _))
  have h := cpi_f (b := 105) (d := 24) (j := 1) (k := 15) h (by decide) (by decide) (Or.inl (Nat.le_refl _))
  have h := cpi_e h es24
  refine pq_n (fun s25 es25 => ?_)
  have h := cpi_f (b := 105) (d := 24) (j := 1) (k := 16) h (by decide) (by decide) (Or.inl (Nat.le_refl _))
  have h := cpi_f (b := 105) (d := 24) (j := 1) (k := 17) h (by decide) (by decide) (Or.inl (Nat.le_refl _))
  have h := cpi_e h es25
  refine pq_c (fun _ => ?_)
  have h := cpi_f (b := 105) (d := 24) (j := 1) (k := 18) h (by decide) (by decide) (Or.inl (Nat.le_refl _))
  have h := cpi_f (b := 105) (d := 24) (j := 1) (k := 19) h (by decide) (by decide) (Or.inl (Nat.le_refl _))
  exact pq_s h
theorem cq_X2_copyFrom_107 {l : List (Nat × Nat)} {nn : Nat}{s0 s : Sg} (h : CpI 105 24 l nn s0 s) : PQ (f_X2_copyFrom_107 s) (fun _ s9 => CpI 105 24 ((2, 13) :: ((2, 12) :: ((2, 11) :: ((2, 10) :: ((2, 9) :: ((2, 8) :: ((2, 7) :: ((2, 6) :: ((20, 4) :: ((19, 8) :: ((18, 8) :: ((17, 8) :: ((16, 8) :: l))))))))))))) nn s0 s9) := by
  unfold f_X2_copyFrom_107
  refine pq_b (c_X11_copyRow_40_121 _) (fun _ s2 es2 => ?_)
  have h := cpi_a (b := 105) (d := 24) (j := 16) (n := 8) h (by decide) (by decide) es2
  refine pq_b (c_X11_copyRow_41_122 _) (fun _ s4 es4 => ?_)
  have h := cpi_a (b := 105) (d := 24) (j := 17) (n := 8) h (by decide) (by decide) es4
  refine pq_b (c_X11_copyRow_42_123 _) (fun _ s6 es6 => ?_)
  have h := cpi_a (b := 105) (d := 24) (j := 18) (n := 8) h (by decide) (by decide) es6
  refine pq_b (c_X11_copyRow_43_124 _) (fun _ s8 es8 => ?_)
  have h := cpi_a (b := 105) (d := 24) (j := 19) (n := 8) h (by decide) (by decide) es8
  refine pq_b (c_X11_copyRow_44_125 _) (fun _ s10 es10 => ?_)
  have h := cpi_a (b := 105) (d := 24) (j := 20) (n := 4) h (by decide) (by decide) es10
  refine pq_n (fun s11 es11 => ?_)
  have h := cpi_f (b := 105) (d := 24) (j := 2) (k := 5) h (by decide) (by decide) (Or.inr rfl)
  have h := cpi_f (b := 105) (d := 24) (j := 2) (k := 6) h (by decide) (by decide) (Or.inl (Nat.le_refl _))
  have h := cpi_e h es11
  refine pq_c (fun _ => ?_)
  refine pq_n (fun s13 es13 => ?_)
  have h := cpi_f (b := 105) (d := 24) (j := 2) (k := 7) h (by decide) (by decide) (Or.inl (Nat.le_refl _))
  have h := cpi_f (b := 105) (d := 24) (j := 2) (k := 8) h (by decide) (by decide) (Or.inl (Nat.le_refl _))
  have h := cpi_e h es13
  refine pq_n (fun s14 es14 => ?_)
  have h := cpi_f (b := 105) (d := 24) (j := 2) (k := 9) h (by decide) (by decide) (Or.inl (Nat.le_refl _))
  have h := cpi_f (b := 105) (d := 24) (j := 2) (k := 10) h (by decide) (by decide) (Or.inl (Nat.le_refl _))
  have h := cpi_e h es14
  refine pq_n (fun s15 es15 => ?_)
  have h := cpi_f (b := 105) (d := 24) (j := 2) (k := 11) h (by decide) (by decide) (Or.inl (Nat.le_refl _))
  have h := cpi_f (b := 105) (d := 24) (j := 2) (k := 12) h (by decide) (by decide) (Or.inl (Nat.le_refl _))
  have h := cpi_e h es15
  exact pq_s h
theorem cq_X5_copyFrom_108 {l : List (Nat × Nat)} {nn : Nat}{s0 s : Sg} (h : CpI 105 24 l nn s0 s) : PQ (f_X5_copyFrom_108 s) (fun _ s9 => CpI 105 24 ((3, 9) :: ((3, 8) :: ((3, 7) :: ((26, 60) :: ((25, 60) :: ((24, 60) :: ((23, 60) :: ((22, 60) :: ((21, 60) :: l))))))))) nn s0 s9) := by
  unfold f_X5_copyFrom_108
  refine pq_b (c_X11_copyRow_45_126 _) (fun _ s2 es2 => ?_)
  have h := cpi_a (b := 105) (d := 24) (j := 21) (n := 60) h (by decide) (by decide) es2
  refine pq_b (c_X11_copyRow_46_127 _) (fun _ s4 es4 => ?_)
  have h := cpi_a (b := 105) (d := 24) (j := 22) (n := 60) h (by decide) (by decide) es4
  refine pq_b (c_X11_copyRow_47_128 _) (fun _ s6 es6 => ?_)
  have h := cpi_a (b := 105) (d := 24) (j := 23) (n := 60) h (by decide) (by decide) es6
  refine pq_b (c_X11_copyRow_48_129 _) (fun _ s8 es8 => ?_)
  have h := cpi_a (b := 105) (d := 24) (j := 24) (n := 60) h (by decide) (by decide) es8
  refine pq_b (c_X11_copyRow_49_130 _) (fun _ s10 es10 => ?_)
  have h := cpi_a (b := 105) (d := 24) (j := 25) (n := 60) h (by decide) (by decide) es10
  refine pq_b (c_X11_copyRow_50_131 _) (fun _ s12 es12 => ?_)
  have h := cpi_a (b := 105) (d := 24) (j := 26) (n := 60) h (by decide) (by decide) es12
  refine pq_c (fun _ => ?_)
  refine pq_n (fun s14 es14 => ?_)
  have h := cpi_f (b := 105) (d := 24) (j := 3) (k := 6) h (by decide) (by decide) (Or.inr rfl)
  have h := cpi_f (b := 105) (d := 24) (j := 3) (k := 7) h (by decide) (by decide) (Or.inl (Nat.le_refl _))
  have h := cpi_e h es14
  have h := cpi_f (b := 105) (d := 24) (j := 3) (k := 8) h (by decide) (by decide) (Or.inl (Nat.le_refl _))
  exact pq_s h
theorem cq_X4_copyFrom_133 {l : List (Nat × Nat)} {s0 s : Sg} (h : CpI 132 24 l 0 s0 s) : PQ (f_X4_copyFrom_133 s) (fun _ s9 => CpI 132 24 ((1, 20) :: ((1, 19) :: ((1, 18) :: ((1, 17) :: ((1, 16) :: ((1, 15) :: ((1, 14) :: ((1, 13) :: ((15, 4) :: ((14, 4) :: ((13, 4) :: ((12, 4) :: ((11, 4) :: ((10, 8) :: ((9, 8) :: ((8, 8) :: ((7, 8) :: ((6, 24) :: ((5, 24) :: l))))))))))))))))))) 24 s0 s9) := by
  unfold f_X4_copyFrom_133
  have h := cpi_b (b := 132) (d := 24) h (by decide)
  refine pq_b (c_X11_copyRow_29_137 _) (fun _ s2 es2 => ?_)
  have h := cpi_a (b := 132) (d := 24) (j := 5) (n := 24) h (by decide) (by decide) es2
  refine pq_b (c_X11_copyRow_30_138 _) (fun _ s4 es4 => ?_)
  have h := cpi_a (b := 132) (d := 24) (j := 6) (n := 24) h (by decide) (by decide) es4
  refine pq_b (c_X11_copyRow_31_139 _) (fun _ s6 es6 => ?_)
  have h := cpi_a (b := 132) (d := 24) (j := 7) (n := 8) h (by decide) (by decide) es6
  refine pq_b (c_X11_copyRow_32_140 _) (fun _ s8 es8 => ?_)
  have h := cpi_a (b := 132) (d := 24) (j := 8) (n := 8) h (by decide) (by decide) es8
  refine pq_b (c_X11_copyRow_33_141 _) (fun _ s10 es10 => ?_)
  have h := cpi_a (b := 132) (d := 24) (j := 9) (n := 8) h (by decide) (by decide) es10
  refine pq_b (c_X11_copyRow_34_142 _) (fun _ s12 es12 => ?_)
  have h := cpi_a (b := 132) (d := 24) (j := 10) (n := 8) h (by decide) (by decide) es12
  refine pq_b (c_X11_copyRow_35_143 _) (fun _ s14 es14 => ?_)
  have h := cpi_a (b := 132) (d := 24) (j := 11) (n := 4) h (by decide) (by decide) es14
  refine pq_b (c_X11_copyRow_36_144 _) (fun _ s16 es16 => ?_)
  have h := cpi_a (b := 132) (d := 24) (j := 12) (n := 4) h (by decide) (by decide) es16
  refine pq_b (c_X11_copyRow_37_145 _) (fun _ s18 es18 => ?_)
  have h := cpi_a (b := 132) (d := 24) (j := 13) (n := 4) h (by decide) (by decide) es18
  refine pq_b (c_X11_copyRow_38_146 _) (fun _ s20 es20 => ?_)
  have h := cpi_a (b := 132) (d := 24) (j := 14) (n := 4) h (by decide) (by decide) es20
  refine pq_b (c_X11_copyRow_39_147 _) (fun _ s22 es22 => ?_)
  have h := cpi_a (b := 132) (d := 24) (j := 15) (n := 4) h (by decide) (by decide) es22
  refine pq_n (fun s23 es23 => ?_)
  have h := cpi_f (b := 132) (d := 24) (j := 1) (k := 12) h (by decide) (by decide) (Or.inr rfl)
  have h := cpi_f (b := 132) (d := 24) (j := 1) (k := 13) h (by decide) (by decide) (Or.inl (Nat.le_refl _))
  have h := cpi_e h es23
  refine pq_n (fun s24 es24 => ?_)
  have h := cpi_f (b := 132) (d := 24) (j := 1) (k := 14) h (by decide) (by decide) (Or.inl (Nat.le_refl _))
  have h := cpi_f (b := 132) (d := 24) (j := 1) (k := 15) h (by decide) (by decide) (Or.inl (Nat.le_refl _))
  have h := cpi_e h es24
  refine pq_n (fun s25 es25 => ?_)
  have h := cpi_f (b := 132) (d := 24) (j := 1) (k := 16) h (by decide) (by decide) (Or.inl (Nat.le_refl _))
  have h := cpi_f (b := 132) (d := 24) (j := 1) (k := 17) h (by decide) (by decide) (Or.inl (Nat.le_refl _))
  have h := cpi_e h es25
  refine pq_c (fun _ => ?_)
  have h := cpi_f (b := 132) (d := 24) (j := 1) (k := 18) h (by decide) (by decide) (Or.inl (Nat.le_refl _))
  have h := cpi_f (b := 132) (d := 24) (j := 1) (k := 19) h (by decide) (by decide) (Or.inl (Nat.le_refl _))
  exact pq_s h
theorem cq_X2_copyFrom_134 {l : List (Nat × Nat)} {nn : Nat}{s0 s : Sg} (h : CpI 132 24 l nn s0 s) : PQ (f_X2_copyFrom_134 s) (fun _ s9 => CpI 132 24 ((2, 13) :: ((2, 12) :: ((2, 11) :: ((2, 10) :: ((2, 9) :: ((2, 8) :: ((2, 7) :: ((2, 6) :: ((20, 4) :: ((19, 8) :: ((18, 8) :: ((17, 8) :: ((16, 8) :: l))))))))))))) nn s0 s9) := by
  unfold f_X2_copyFrom_134
  refine pq_b (c_X11_copyRow_40_148 _) (fun _ s2 es2 => ?_)
  have h := cpi_a (b := 132) (d := 24) (j := 16) (n := 8) h (by decide) (by decide) es2
  refine pq_b (c_X11_copyRow_41_149 _) (fun _ s4 es4 => ?_)
  have h := cpi_a (b := 132) (d := 24) (j := 17) (n := 8) h (by decide) (by decide) es4
  refine pq_b (c_X11_copyRow_42_150 _) (fun _ s6 es6 => ?_)
  have h := cpi_a (b := 132) (d := 24) (j := 18) (n := 8) h (by decide) (by decide) es6
  refine pq_b (c_X11_copyRow_43_151 _) (fun _ s8 es8 => ?_)
  have h := cpi_a (b := 132) (d := 24) (j := 19) (n := 8) h (by decide) (by decide) es8
  refine pq_b (c_X11_copyRow_44_152 _) (fun _ s10 es10 => ?_)
  have h := cpi_a (b := 132) (d := 24) (j := 20) (n := 4) h (by decide) (by decide) es10
  refine pq_n (fun s11 es11 => ?_)
  have h := cpi_f (b := 132) (d := 24) (j := 2) (k := 5) h (by decide) (by decide) (Or.inr rfl)
  have h := cpi_f (b := 132) (d := 24) (j := 2) (k := 6) h (by decide) (by decide) (Or.inl (Nat.le_refl _))
  have h := cpi_e h es11
  refine pq_c (fun _ => ?_)
  refine pq_n (fun s13 es13 => ?_)
  have h := cpi_f (b := 132) (d := 24) (j := 2) (k := 7) h (by decide) (by decide) (Or.inl (Nat.le_refl _))
  have h := cpi_f (b := 132) (d := 24) (j := 2) (k := 8) h (by decide) (by decide) (Or.inl (Nat.le_refl _))
  have h := cpi_e h es13
  refine pq_n (fun s14 es14 => ?_)
  have h := cpi_f (b := 132) (d := 24) (j := 2) (k := 9) h (by decide) (by decide) (Or.inl (Nat.le_refl _))
  have h := cpi_f (b := 132) (d := 24) (j := 2) (k := 10) h (by decide) (by decide) (Or.inl (Nat.le_refl _))
  have h := cpi_e h es14
  refine pq_n (fun s15 es15 => ?_)
  have h := cpi_f (b := 132) (d := 24) (j := 2) (k := 11) h (by decide) (by decide) (Or.inl (Nat.le_refl _))
  have h := cpi_f (b := 132) (d := 24) (j := 2) (k := 12) h (by decide) (by decide) (Or.inl (Nat.le_refl _))
  have h := cpi_e h es15
  exact pq_s h
theorem cq_X5_copyFrom_135 {l : List (Nat × Nat)} {nn : Nat}{s0 s : Sg} (h : CpI 132 24 l nn s0 s) : PQ (f_X5_copyFrom_135 s) (fun _ s9 => CpI 132 24 ((3, 9) :: ((3, 8) :: ((3, 7) :: ((26, 60) :: ((25, 60) :: ((24, 60) :: ((23, 60) :: ((22, 60) :: ((21, 60) :: l))))))))) nn s0 s9) := by
  unfold f_X5_copyFrom_135
  refine pq_b (c_X11_copyRow_45_153 _) (fun _ s2 es2 => ?_)
  have h := cpi_a (b := 132) (d := 24) (j := 21) (n := 60) h (by decide) (by decide) es2
  refine pq_b (c_X11_copyRow_46_154 _) (fun _ s4 es4 => ?_)
  have h := cpi_a (b := 132) (d := 24) (j := 22) (n := 60) h (by decide) (by decide) es4
  refine pq_b (c_X11_copyRow_47_155 _) (fun _ s6 es6 => ?_)
  have h := cpi_a (b := 132) (d := 24) (j := 23) (n := 60) h (by decide) (by decide) es6
  refine pq_b (c_X11_copyRow_48_156 _) (fun _ s8 es8 => ?_)
  have h := cpi_a (b := 132) (d := 24) (j := 24) (n := 60) h (by decide) (by decide) es8
  refine pq_b (c_X11_copyRow_49_157 _) (fun _ s10 es10 => ?_)
  have h := cpi_a (b := 132) (d := 24) (j := 25) (n := 60) h (by decide) (by decide) es10
  refine pq_b (c_X11_copyRow_50_158 _) (fun _ s12 es12 => ?_)
  have h := cpi_a (b := 132) (d := 24) (j := 26) (n := 60) h (by decide) (by decide) es12
  refine pq_c (fun _ => ?_)
  refine pq_n (fun s14 es14 => ?_)
  have h := cpi_f (b := 132) (d := 24) (j := 3) (k := 6) h (by decide) (by decide) (Or.inr rfl)
  have h := cpi_f (b := 132) (d := 24) (j := 3) (k := 7) h (by decide) (by decide) (Or.inl (Nat.le_refl _))
  have h := cpi_e h es14
  have h := cpi_f (b := 132) (d := 24) (j := 3) (k := 8) h (by decide) (by decide) (Or.inl (Nat.le_refl _))
  exact pq_s h
theorem cw_X10_copyFrom_51 (s : Sg) : PQ (f_X10_copyFrom_51 s) (fun _ s9 => CpW 51 24 s s9) := by
  unfold f_X10_copyFrom_51
  refine pq_b (cq_X4_copyFrom_52 (cpi_0 51 24 s)) (fun _ s0 h0 => ?_)
  refine pq_b (cq_X2_copyFrom_53 h0) (fun _ s1 h1 => ?_)
  refine pq_b (cq_X5_copyFrom_54 h1) (fun _ s2 h2 => ?_)
  exact pq_s (cpw_of h2 (by decide))
theorem cw_X10_copyFrom_24_78 (s : Sg) : PQ (f_X10_copyFrom_24_78 s) (fun _ s9 => CpW 24 78 s s9) := by
  unfold f_X10_copyFrom_24_78
  refine pq_b (cq_X4_copyFrom_25_79 (cpi_0 24 78 s)) (fun _ s0 h0 => ?_)
  refine pq_b (cq_X2_copyFrom_26_80 h0) (fun _ s1 h1 => ?_)
  refine pq_b (cq_X5_copyFrom_27_81 h1) (fun _ s2 h2 => ?_)
  exact pq_s (cpw_of h2 (by decide))
theorem cw_X10_copyFrom_24_105 (s : Sg) : PQ (f_X10_copyFrom_24_105 s) (fun _ s9 => CpW 24 105 s s9) := by
  unfold f_X10_copyFrom_24_105
  refine pq_b (cq_X4_copyFrom_25_106 (cpi_0 24 105 s)) (fun _ s0 h0 => ?_)
  refine pq_b (cq_X2_copyFrom_26_107 h0) (fun _ s1 h1 => ?_)
  refine pq_b (cq_X5_copyFrom_27_108 h1) (fun _ s2 h2 => ?_)
  exact pq_s (cpw_of h2 (by decide))
theorem cw_X10_copyFrom_24_132 (s : Sg) : PQ (f_X10_copyFrom_24_132 s) (fun _ s9 => CpW 24 132 s s9) := by
  unfold f_X10_copyFrom_24_132
  refine pq_b (cq_X4_copyFrom_25_133 (cpi_0 24 132 s)) (fun _ s0 h0 => ?_)
  refine pq_b (cq_X2_copyFrom_26_134 h0) (fun _ s1 h1 => ?_)
  refine pq_b (cq_X5_copyFrom_27_135 h1) (fun _ s2 h2 => ?_)
  exact pq_s (cpw_of h2 (by decide))
theorem cw_X10_copyFrom_78 (s : Sg) : PQ (f_X10_copyFrom_78 s) (fun _ s9 => CpW 78 24 s s9) := by
  unfold f_X10_copyFrom_78
  refine pq_b (cq_X4_copyFrom_79 (cpi_0 78 24 s)) (fun _ s0 h0 => ?_)
  refine pq_b (cq_X2_copyFrom_80 h0) (fun _ s1 h1 => ?_)
  refine pq_b (cq_X5_copyFrom_81 h1) (fun _ s2 h2 => ?_)
  exact pq_s (cpw_of h2 (by decide))
theorem cw_X10_copyFrom_105 (s : Sg) : PQ (f_X10_copyFrom_105 s) (fun _ s9 => CpW 105 24 s s9) := by
  unfold f_X10_copyFrom_105
  refine pq_b (cq_X4_copyFrom_106 (cpi_0 105 24 s)) (fun _ s0 h0 => ?_)
  refine pq_b (cq_X2_copyFrom_107 h0) (fun _ s1 h1 => ?_)
  refine pq_b (cq_X5_copyFrom_108 h1) (fun _ s2 h2 => ?_)
  exact pq_s (cpw_of h2 (by decide))
theorem cw_X10_copyFrom_132 (s : Sg) : PQ (f_X10_copyFrom_132 s) (fun _ s9 => CpW 132 24 s s9) := by
  unfold f_X10_copyFrom_132
  refine pq_b (cq_X4_copyFrom_133 (cpi_0 132 24 s)) (fun _ s0 h0 => ?_)
  refine pq_b (cq_X2_copyFrom_134 h0) (fun _ s1 h1 => ?_)
  refine pq_b (cq_X5_copyFrom_135 h1) (fun _ s2 h2 => ?_)
  exact pq_s (cpw_of h2 (by decide))
