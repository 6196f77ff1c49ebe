/-! texts: a part of a street, the parts one behind another -/
theorem bd_cl {α β : Type} {o : Option (α × Sg)} {k : α → Sg → Option (β × Sg)} {r : β} {s : Sg} (h : bd o k = some (r, s)) : ∃ r0 s0, o = some (r0, s0) ∧ k r0 s0 = some (r, s) := by
  cases o with
  | none => cases h
  | some q => exact ⟨q.1, q.2, rfl, h⟩
/-- the class's part at a token, by its kind -/
def prtC (s : Sg) : Option (Int32 × Sg) := if s.1 7 3 = 100 then f_X6_takeHouse s else if s.1 7 3 = 103 then f_X6_takeCounts s else if s.1 7 3 = 104 then f_X6_takeQuarrel s else if s.1 7 3 = 108 then f_X6_takeCat s else if s.1 7 3 = 112 then f_X6_takeGrocer s else if s.1 7 3 = 116 then f_X6_takeWashes s else f_X7_wrong 2 s
theorem tt_k (m : Nat) (v1 v2 : Int32) (s : Sg) : f_X6_takeText_b21 (m + 1) v1 v2 s = if 900 < v2 then ck (v1 = 0 ∨ v1 = 1) (some (v1, s)) else if v1 = 0 then ck (v1 = 0 ∨ v1 = 1) (some (v1, s)) else if s.1 7 3 = 0 then ck (v1 = 0 ∨ v1 = 1) (some (v1, s)) else bd (prtC s) (fun r s => f_X6_takeText_b21 m r (v2 + 1) s) := by
  conv => lhs; unfold f_X6_takeText_b21
  by_cases h1 : 900 < v2
  · rw [if_pos h1, if_pos h1]
  rw [if_neg h1, if_neg h1]
  by_cases h2 : v1 = 0
  · rw [if_pos h2, if_pos h2]
  rw [if_neg h2, if_neg h2]
  by_cases h3 : s.1 7 3 = 0
  · rw [if_pos h3, if_pos h3]
  rw [if_neg h3, if_neg h3]
  unfold prtC
  have d : ∀ {a b : Int32}, s.1 7 3 = a → ¬ a = b → ¬ s.1 7 3 = b := fun e n z => n (e.symm.trans z)
  by_cases c0 : s.1 7 3 = 100
  · rw [if_pos c0, if_pos c0]
  rw [if_neg c0, if_neg c0]
  by_cases c1 : s.1 7 3 = 101
  · rw [if_pos c1, if_neg (d c1 (by decide)), if_neg (d c1 (by decide)), if_neg (d c1 (by decide)), if_neg (d c1 (by decide)), if_neg (d c1 (by decide))]
  rw [if_neg c1]
  by_cases c2 : s.1 7 3 = 102
  · rw [if_pos c2, if_neg (d c2 (by decide)), if_neg (d c2 (by decide)), if_neg (d c2 (by decide)), if_neg (d c2 (by decide)), if_neg (d c2 (by decide))]
  rw [if_neg c2]
  by_cases c3 : s.1 7 3 = 103
  · rw [if_pos c3, if_pos c3]
  rw [if_neg c3, if_neg c3]
  by_cases c4 : s.1 7 3 = 104
  · rw [if_pos c4, if_pos c4]
  rw [if_neg c4, if_neg c4]
  by_cases c5 : s.1 7 3 = 105
  · rw [if_pos c5, if_neg (d c5 (by decide)), if_neg (d c5 (by decide)), if_neg (d c5 (by decide))]
  rw [if_neg c5]
  by_cases c6 : s.1 7 3 = 106
  · rw [if_pos c6, if_neg (d c6 (by decide)), if_neg (d c6 (by decide)), if_neg (d c6 (by decide))]
  rw [if_neg c6]
  by_cases c7 : s.1 7 3 = 107
  · rw [if_pos c7, if_neg (d c7 (by decide)), if_neg (d c7 (by decide)), if_neg (d c7 (by decide))]
  rw [if_neg c7]
  by_cases c8 : s.1 7 3 = 108
  · rw [if_pos c8, if_pos c8]
  rw [if_neg c8, if_neg c8]
  by_cases c9 : s.1 7 3 = 109
  · rw [if_pos c9, if_neg (d c9 (by decide)), if_neg (d c9 (by decide))]
  rw [if_neg c9]
  by_cases c10 : s.1 7 3 = 110
  · rw [if_pos c10, if_neg (d c10 (by decide)), if_neg (d c10 (by decide))]
  rw [if_neg c10]
  by_cases c11 : s.1 7 3 = 111
  · rw [if_pos c11, if_neg (d c11 (by decide)), if_neg (d c11 (by decide))]
  rw [if_neg c11]
  by_cases c12 : s.1 7 3 = 112
  · rw [if_pos c12, if_pos c12]
  rw [if_neg c12, if_neg c12]
  by_cases c13 : s.1 7 3 = 113
  · rw [if_pos c13, if_neg (d c13 (by decide))]
  rw [if_neg c13]
  by_cases c14 : s.1 7 3 = 114
  · rw [if_pos c14, if_neg (d c14 (by decide))]
  rw [if_neg c14]
  by_cases c15 : s.1 7 3 = 115
  · rw [if_pos c15, if_neg (d c15 (by decide))]
  rw [if_neg c15]
  by_cases c16 : s.1 7 3 = 116
  · rw [if_pos c16, if_pos c16]
  rw [if_neg c16, if_neg c16]
theorem part_r {n : Nat} {sC sM : Sg} (h : SR n sC sM) : RQ (prtC sC) (f_X12_streetPart sM) (Og (PaT n sC sM)) := by
  unfold prtC f_X12_streetPart
  refine rq_bM (word_r h.1.1) (fun r1 s2 g => ?_)
  obtain ⟨es, g, -⟩ := g
  subst es
  have e0 := kws_eq g (i := 0) (by decide) (c := 100) (p := 0) rfl rfl
  have e3 := kws_eq g (i := 3) (by decide) (c := 103) (p := 5) rfl rfl
  have e4 := kws_eq g (i := 4) (by decide) (c := 104) (p := 1) rfl rfl
  have e8 := kws_eq g (i := 8) (by decide) (c := 108) (p := 2) rfl rfl
  have e12 := kws_eq g (i := 12) (by decide) (c := 112) (p := 3) rfl rfl
  have e16 := kws_eq g (i := 16) (by decide) (c := 116) (p := 4) rfl rfl
  have d : ∀ {a b : Int32}, r1 = a → ¬ a = b → ¬ r1 = b := fun e n z => n (e.symm.trans z)
  by_cases c0 : sC.1 7 3 = 100
  · have r := e0.mp c0
    rw [if_pos c0, if_pos r]
    exact house_r h
  rw [if_neg c0, if_neg (fun z => c0 (e0.mpr z))]
  by_cases c3 : sC.1 7 3 = 103
  · have r := e3.mp c3
    rw [if_pos c3, if_neg (d r (by decide)), if_neg (d r (by decide)), if_neg (d r (by decide)), if_neg (d r (by decide)), if_pos r]
    exact counts_r h
  rw [if_neg c3]
  by_cases c4 : sC.1 7 3 = 104
  · have r := e4.mp c4
    rw [if_pos c4, if_pos r]
    exact quarrel_r h
  rw [if_neg c4, if_neg (fun z => c4 (e4.mpr z))]
  by_cases c8 : sC.1 7 3 = 108
  · have r := e8.mp c8
    rw [if_pos c8, if_pos r]
    exact cat_r h
  rw [if_neg c8, if_neg (fun z => c8 (e8.mpr z))]
  by_cases c12 : sC.1 7 3 = 112
  · have r := e12.mp c12
    rw [if_pos c12, if_pos r]
    exact grocer_r h
  rw [if_neg c12, if_neg (fun z => c12 (e12.mpr z))]
  by_cases c16 : sC.1 7 3 = 116
  · have r := e16.mp c16
    rw [if_pos c16, if_pos r]
    exact washes_r h
  rw [if_neg c16, if_neg (fun z => c16 (e16.mpr z)), if_neg (fun z => c3 (e3.mpr z))]
  intro a s b t q1 q2
  obtain ⟨r0, t0, q3, q4⟩ := bd_cl q2
  have f := fails_r h.1.1 h.1.2.1 2 (by decide) a s r0 t0 q1 q3
  have q4 : ck (r0 = 0 ∨ r0 = 1) (some (r0, t0)) = some (b, t) := q4
  unfold ck at q4
  rw [if_pos (Or.inl f.2.1)] at q4
  cases q4
  exact Or.inr ⟨f.1, f.2.1, f.2.2⟩
/-- the parts one behind another -/
theorem parts_r {α : Type} {n : Nat} {R : α → Sg → Int32 → Sg → Prop} (KC : Int32 → Sg → Option (α × Sg)) {J : Sg → Prop} (hJ : ∀ t, J t → PQ (f_X12_streetPart t) (fun r t' => ¬ r = 0 → J t')) (hE : ∀ s t, SR n s t → J t → s.1 7 3 = 0 → RQ (KC 1 s) (f_X12_street_b50 t) R) (hF : ∀ s t, FtR s t → RQ (KC 0 s) (f_X12_street_b50 t) R) (m : Nat) : ∀ (m' : Nat) (v1 v2 v3 : Int32) (s t : Sg), ((v1 = 1 ∧ v3 = 1 ∧ SR n s t ∧ (0 ≤ v2.toInt ∧ v2.toInt ≤ (s.1 7 4).toInt) ∧ J t) ∨ (v1 = 0 ∧ v3 = 0 ∧ FtR s t ∧ 0 ≤ v2.toInt)) → RQ (bd (f_X6_takeText_b21 m v1 v2 s) KC) (f_X12_street_b31 m' v3 t) R := by
  induction m with
  | zero =>
    intro m' v1 v2 v3 s t _ a s' b t' e
    have e : (none : Option (α × Sg)) = some (a, s') := e
    cases e
  | succ m ih =>
    intro m' v1 v2 v3 s t h
    cases m' with
    | zero => exact rq_0
    | succ m' =>
      rw [tt_k]
      unfold f_X12_street_b31
      have ck1 : ∀ {v : Int32} {s : Sg}, (v = 0 ∨ v = 1) → bd (ck (v = 0 ∨ v = 1) (some (v, s))) KC = KC v s := fun h => by
        unfold ck
        rw [if_pos h]
        rfl
      have e900 : (900 : Int32).toInt = 900 := rfl
      rcases h with ⟨h1, h3, h, ⟨h4, h5⟩, hj⟩ | ⟨h1, h3, h, h4⟩ <;> subst h1 <;> subst h3
      · have tp := tk_pos h.1.1
        have n9 : ¬ (900 : Int32) < v2 := fun z => by
          have := i_lt z
          omega
        rw [if_neg n9, if_neg i10, if_neg i10]
        have k := knd_of h.1.1
        have k0 : s.1 7 3 = 0 ↔ t.1 0 12 = 0 := by
          have e0 : (0 : Int32).toInt = 0 := rfl
          rcases k with k | k | k | k | k
          · rw [k.1, k.2]
          · rw [k.1, k.2]; decide
          · rw [k.1, k.2.1]
          · rw [k.2.1]
            refine ⟨fun w => ?_, fun w => absurd w (by decide)⟩
            have z := isS_t k.1
            rw [w] at z
            omega
          · rw [k.1]
            refine ⟨fun w => ?_, fun w => absurd w (by decide)⟩
            rcases k.2 with q | q | ⟨i, q1, q2⟩
            · exact absurd (w.symm.trans q) (by decide)
            · exact absurd (w.symm.trans q) (by decide)
            · rw [w] at q2
              omega
        by_cases c : s.1 7 3 = 0
        · rw [if_pos c, if_pos (k0.mp c), ck1 (Or.inr rfl)]
          exact hE s t h hj c
        · rw [if_neg c, if_neg (fun z => c (k0.mpr z)), bd_bd]
          have both : RQ (prtC s) (f_X12_streetPart t) (fun r s2 r' t2 => Og (PaT n s t) r s2 r' t2 ∧ (¬ r' = 0 → J t2)) := fun r s2 r' t2 q1 q2 => ⟨part_r h r s2 r' t2 q1 q2, hJ t hj r' t2 q2⟩
          refine rq_b2 both (fun r s2 r' t2 gg => ?_)
          obtain ⟨g, gj⟩ := gg
          have lt := tk_lt h.1.1 c
          have a2 : (v2 + 1).toInt = v2.toInt + 1 := i_addx v2 1 (show -2147483648 ≤ v2.toInt + 1 ∧ v2.toInt + 1 ≤ 2147483647 from by omega)
          refine ih m' r (v2 + 1) r' s2 t2 ?_
          rcases g with ⟨z, z', g⟩ | ⟨z, z', g⟩
          · exact Or.inl ⟨z, z', g.1, ⟨by omega, by have := g.2; omega⟩, gj (by rw [z']; decide)⟩
          · exact Or.inr ⟨z, z', g, by omega⟩
      · rw [if_pos rfl, if_pos rfl]
        have hh : (if 900 < v2 then ck ((0 : Int32) = 0 ∨ (0 : Int32) = 1) (some ((0 : Int32), s)) else ck ((0 : Int32) = 0 ∨ (0 : Int32) = 1) (some ((0 : Int32), s))) = ck ((0 : Int32) = 0 ∨ (0 : Int32) = 1) (some ((0 : Int32), s)) := by
          by_cases z : 900 < v2
          · rw [if_pos z]
          · rw [if_neg z]
        rw [hh, ck1 (Or.inl rfl)]
        exact hF s t h
