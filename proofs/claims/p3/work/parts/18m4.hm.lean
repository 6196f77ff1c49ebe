set_option maxRecDepth 20000 in
theorem h_X12_days_b102 {s0 : Sg} (n : Nat) : ∀ (v3 : Int32) (s : Sg), JM 6340728883580901023760718496128 s0 s → 110 ≤ v3.toInt ∧ v3.toInt ≤ 511 → 511 - v3.toInt < (n : Int) → OQ (f_X12_days_b102 n v3 s) (fun r9 s9 => JM 6340728883580901023760718496128 s0 s9 ∧ True ∧ (r9 = 0 → True) ∧ (¬ r9 = 0 → True)) := by
  induction n with
  | zero => intro v3 s hJ p_v3 hn; exact False.elim (by have g0 := hn; have g1 := p_v3; have g2 := i_rg v3; omega)
  | succ n ih =>
    intro v3 s hJ p_v3 hn
    unfold f_X12_days_b102
    refine oq_if (fun c1 => ?_) (fun c1 => ?_)
    · refine oq_b (h_X12_taken _ hJ.1 (by have f0 := j_rd hJ 0 23 0 30 rfl; omega)) (fun r6 s7 hs7 => ?_)
      have js7 : JM 6340728883580901023760718496128 s0 s7 := j_call hJ hs7.1 rfl
      exact ⟨js7, trivial, fun _ => trivial, fun _ => trivial⟩
    · refine oq_c (inr_of (by have f0 : (((1920 : Int32)) + (v3)).toInt = ((1920 : Int32)).toInt + (v3).toInt := i_addx ((1920 : Int32)) (v3) (by have f0 : (1920 : Int32).toInt = 1920 := rfl; have f1 := p_v3; have f2 := i_rg v3; have f3 := i_nle c1; have f4 : (480 : Int32).toInt = 480 := rfl; omega); have f1 : (1920 : Int32).toInt = 1920 := rfl; have f2 := p_v3; have f3 := i_rg v3; have f4 := i_nle c1; have f5 : (480 : Int32).toInt = 480 := rfl; omega)) ?_
      refine oq_c (inr_of (by have f0 := p_v3; have f1 := i_rg v3; have f2 := i_nle c1; have f3 : (480 : Int32).toInt = 480 := rfl; omega)) ?_
      refine oq_n (fun s10 es10 => ?_)
      have js10 : JM 6340728883580901023760718496128 s0 s10 := by rw [es10]; exact (j_wm hJ (rz_cp hJ v3.toNatClampNeg ((1920 + v3).toNatClampNeg) (by have d0 := p_v3; have d1 := i_rg v3; have d2 := i_nle c1; have d3 : (480 : Int32).toInt = 480 := rfl; have d4 := cl_nat (v3); have d5 : (((1920 : Int32)) + (v3)).toInt = ((1920 : Int32)).toInt + (v3).toInt := i_addx ((1920 : Int32)) (v3) (by have f0 : (1920 : Int32).toInt = 1920 := rfl; have f1 := p_v3; have f2 := i_rg v3; have f3 := i_nle c1; have f4 : (480 : Int32).toInt = 480 := rfl; omega); have d6 : (1920 : Int32).toInt = 1920 := rfl; have d7 := cl_nat (1920 + v3); omega)) (mk_100 (by have d0 := p_v3; have d1 := i_rg v3; have d2 := i_nle c1; have d3 : (480 : Int32).toInt = 480 := rfl; have d4 := cl_nat (v3); omega) rfl))
      exact ih _ _ js10 (by have f0 : ((v3) + ((1 : Int32))).toInt = (v3).toInt + ((1 : Int32)).toInt := i_addx (v3) ((1 : Int32)) (by have f0 := p_v3; have f1 := i_rg v3; have f2 : (1 : Int32).toInt = 1 := rfl; have f3 := i_nle c1; have f4 : (480 : Int32).toInt = 480 := rfl; omega); have f1 := p_v3; have f2 := i_rg v3; have f3 : (1 : Int32).toInt = 1 := rfl; have f4 := i_nle c1; have f5 : (480 : Int32).toInt = 480 := rfl; omega) (by have g0 : ((v3) + ((1 : Int32))).toInt = (v3).toInt + ((1 : Int32)).toInt := i_addx (v3) ((1 : Int32)) (by have f0 := p_v3; have f1 := i_rg v3; have f2 : (1 : Int32).toInt = 1 := rfl; have f3 := i_nle c1; have f4 : (480 : Int32).toInt = 480 := rfl; omega); have g1 := p_v3; have g2 := i_rg v3; have g3 : (1 : Int32).toInt = 1 := rfl; have g4 := i_nle c1; have g5 : (480 : Int32).toInt = 480 := rfl; have g6 := hn; omega)
set_option maxRecDepth 20000 in
theorem h_X12_days_b77 {s0 : Sg}  (s : Sg) (hJ : JM 6340728883580901023760718496128 s0 s) : OQ (f_X12_days_b77  s) (fun r9 s9 => JM 6340728883580901023760718496128 s0 s9 ∧ True ∧ (r9 = 0 → True) ∧ (¬ r9 = 0 → True)) := by
  unfold f_X12_days_b77
  refine oq_if (fun c1 => ?_) (fun c1 => ?_)
  · exact h_X12_days_b102 BIG _ _ (j_wr (-1) 60 hJ rfl 71 rfl rfl (by have f0 := j_rd hJ 1 1931 (-1) 60 rfl; omega)) (by have f0 : (110 : Int32).toInt = 110 := rfl; omega) (by have g0 : (110 : Int32).toInt = 110 := rfl; have g1 : BIG = 4294967296 := rfl; omega)
  · refine oq_b (h_X12_taken _ hJ.1 (by have f0 := j_rd hJ 0 23 0 30 rfl; omega)) (fun r11 s12 hs12 => ?_)
    have js12 : JM 6340728883580901023760718496128 s0 s12 := j_call hJ hs12.1 rfl
    exact ⟨js12, trivial, fun _ => trivial, fun _ => trivial⟩
set_option maxRecDepth 20000 in
theorem h_X12_days_b57 {s0 : Sg}  (s : Sg) (hJ : JM 6340728883580901023760718496128 s0 s) : OQ (f_X12_days_b57  s) (fun r9 s9 => JM 6340728883580901023760718496128 s0 s9 ∧ True ∧ (r9 = 0 → True) ∧ (¬ r9 = 0 → True)) := by
  unfold f_X12_days_b57
  refine oq_if (fun c1 => ?_) (fun c1 => ?_)
  · refine oq_if (fun c2 => ?_) (fun c2 => ?_)
    · exact h_X12_days_b77  _ hJ
    · refine oq_b (h_X12_fails _ hJ.1 (by have f0 : (2 : Int32).toInt = 2 := rfl; omega)) (fun r13 s14 hs14 => ?_)
      have js14 : JM 6340728883580901023760718496128 s0 s14 := j_call hJ hs14.1 rfl
      exact h_X12_days_b77  _ js14
  · exact h_X12_days_b77  _ hJ
set_option maxRecDepth 20000 in
theorem h_X12_days_b38 {s0 : Sg} (n : Nat) : ∀ (v2 : Int32) (s : Sg), JM 6340728883580901023760718496128 s0 s → 0 ≤ v2.toInt ∧ v2.toInt ≤ 1 → (v2.toInt = 0 ∨ (0 ≤ (s.1 1 1931).toInt ∧ (s.1 1 1931).toInt + (s.1 0 22).toInt ≤ 2 * (s.1 0 23).toInt)) → 100 * v2.toInt + 100 - (2 * (s.1 0 23).toInt - (s.1 0 22).toInt) < (n : Int) → OQ (f_X12_days_b38 n v2 s) (fun r9 s9 => JM 6340728883580901023760718496128 s0 s9 ∧ True ∧ (r9 = 0 → True) ∧ (¬ r9 = 0 → True)) := by
  induction n with
  | zero => intro v2 s hJ p_v2 x_1 hn; exact False.elim (by have g0 := hn; have g1 := p_v2; have g2 := i_rg v2; have g3 := j_rd hJ 0 22 0 3 rfl; have g4 := j_rd hJ 0 23 0 30 rfl; have g5 := x_1; omega)
  | succ n ih =>
    intro v2 s hJ p_v2 x_1 hn
    unfold f_X12_days_b38
    refine oq_if (fun c1 => ?_) (fun c1 => ?_)
    · exact h_X12_days_b57  _ hJ
    · refine oq_if (fun c2 => ?_) (fun c2 => ?_)
      · exact h_X12_days_b57  _ hJ
      · refine oq_b (h_X12_dayStep  hJ.1 (by have g0 := j_rd hJ 1 1931 (-1) 60 rfl; have g1 := j_rd hJ 0 22 0 3 rfl; have g2 := j_rd hJ 0 23 0 30 rfl; have g3 := x_1; have g4 := i_ne c1; have g5 := p_v2; have g6 := i_rg v2; have g7 : (0 : Int32).toInt = 0 := rfl; omega)) (fun r15 s16 hs16 => ?_)
        have js16 : JM 6340728883580901023760718496128 s0 s16 := j_call hJ hs16.1 rfl
        exact ih _ _ js16 (by have f0 := hs16.2.1; have f1 := i_rg r15; have f2 := hs16.2.1.2; have f3 := j_rd hJ 0 22 0 3 rfl; have f4 := j_rd hJ 0 23 0 30 rfl; have f5 := j_rd js16 1 1931 (-1) 60 rfl; have f6 := j_rd js16 0 22 0 3 rfl; have f7 := j_rd js16 0 23 0 30 rfl; have f8 := x_1; have f9 := i_ne c1; have f10 := p_v2; have f11 := i_rg v2; have f12 := j_rd hJ 1 1931 (-1) 60 rfl; have f13 : (0 : Int32).toInt = 0 := rfl; omega) (by have g0 := hs16.2.1; have g1 := i_rg r15; have g2 := hs16.2.1.2; have g3 := j_rd js16 1 1931 (-1) 60 rfl; have g4 := j_rd js16 0 22 0 3 rfl; have g5 := j_rd js16 0 23 0 30 rfl; have g6 := j_rd hJ 0 22 0 3 rfl; have g7 := j_rd hJ 0 23 0 30 rfl; have g8 := x_1; have g9 := i_ne c1; have g10 := p_v2; have g11 := i_rg v2; have g12 := j_rd hJ 1 1931 (-1) 60 rfl; have g13 : (0 : Int32).toInt = 0 := rfl; omega) (by have g0 := hs16.2.1; have g1 := i_rg r15; have g2 := hs16.2.1.2; have g3 := j_rd js16 0 22 0 3 rfl; have g4 := j_rd js16 0 23 0 30 rfl; have g5 := p_v2; have g6 := i_rg v2; have g7 := j_rd hJ 0 22 0 3 rfl; have g8 := j_rd hJ 0 23 0 30 rfl; have g9 := j_rd js16 1 1931 (-1) 60 rfl; have g10 := x_1; have g11 := i_ne c1; have g12 := j_rd hJ 1 1931 (-1) 60 rfl; have g13 : (0 : Int32).toInt = 0 := rfl; have g14 := hn; omega)
set_option maxRecDepth 20000 in
theorem h_X12_days (a1 : Int32) {s : Sg} (hR : Rg rM s) : OQ (f_X12_days a1 s) (fun r9 s9 => JM 6340728883580901023760718496128 s s9 ∧ True ∧ (r9 = 0 → True) ∧ (¬ r9 = 0 → True)) := by
  have hJ : JM 6340728883580901023760718496128 s s := j_refl hR
  unfold f_X12_days
  refine oq_b (h_X12_begins _ _ hJ.1 (by have f0 : (300 : Int32).toInt = 300 := rfl; omega)) (fun r1 s2 hs2 => ?_)
  have js2 : JM 6340728883580901023760718496128 s s2 := j_call hJ hs2.1 rfl
  refine oq_if (fun c1 => ?_) (fun c1 => ?_)
  · refine oq_b (h_X12_refuse _ js2.1 (by have f0 : (1 : Int32).toInt = 1 := rfl; omega)) (fun r3 s4 hs4 => ?_)
    have js4 : JM 6340728883580901023760718496128 s s4 := j_call js2 hs4.1 rfl
    exact ⟨js4, trivial, fun w9 => False.elim (by have f0 := hs4.2.1; have f1 := i_rg r3; have f2 := hs2.2.1; have f3 := i_rg r1; have f4 := i_eq c1; have f5 := i_eq w9; have f6 : (0 : Int32).toInt = 0 := rfl; omega), fun _ => trivial⟩
  · refine oq_n (fun s5 es5 => ?_)
    have js5 : JM 6340728883580901023760718496128 s s5 := by rw [es5]; exact (j_wr 0 30 (j_wr 0 3 (j_wr (-1) 60 js2 rfl 91 rfl rfl (by have f0 : (0 : Int32).toInt = 0 := rfl; omega)) rfl 42 rfl rfl (by have f0 : (0 : Int32).toInt = 0 := rfl; omega)) rfl 43 rfl rfl (by have f0 : (0 : Int32).toInt = 0 := rfl; omega))
    exact h_X12_days_b38 BIG _ _ js5 (by have f0 : (1 : Int32).toInt = 1 := rfl; omega) (by have g0 : (1 : Int32).toInt = 1 := rfl; have g1 := j_rd js5 1 1931 (-1) 60 rfl; have g2 : (s5.1 1 1931).toInt = ((pI (pI s2 1 1931 0) 0 22 0).1 1 1931).toInt := (by rw [es5]; exact u_nc rfl); have g3 := j_rd js5 0 22 0 3 rfl; have g4 : (s5.1 0 22).toInt = ((pI (pI s2 1 1931 0) 0 22 0).1 0 22).toInt := (by rw [es5]; exact u_ne rfl); have g5 := j_rd js5 0 23 0 30 rfl; have g6 : (s5.1 0 23).toInt = ((0 : Int32)).toInt := (by rw [es5]; exact u_eq); have g7 := j_rd ((j_wr 0 3 (j_wr (-1) 60 js2 rfl 91 rfl rfl (by have f0 : (0 : Int32).toInt = 0 := rfl; omega)) rfl 42 rfl rfl (by have f0 : (0 : Int32).toInt = 0 := rfl; omega)) : JM 6340728883580901023760718496128 s (pI (pI s2 1 1931 0) 0 22 0)) 1 1931 (-1) 60 rfl; have g8 : ((pI (pI s2 1 1931 0) 0 22 0).1 1 1931).toInt = ((pI s2 1 1931 0).1 1 1931).toInt := u_nc rfl; have g9 := j_rd ((j_wr 0 3 (j_wr (-1) 60 js2 rfl 91 rfl rfl (by have f0 : (0 : Int32).toInt = 0 := rfl; omega)) rfl 42 rfl rfl (by have f0 : (0 : Int32).toInt = 0 := rfl; omega)) : JM 6340728883580901023760718496128 s (pI (pI s2 1 1931 0) 0 22 0)) 0 22 0 3 rfl; have g10 : ((pI (pI s2 1 1931 0) 0 22 0).1 0 22).toInt = ((0 : Int32)).toInt := u_eq; have g11 : (0 : Int32).toInt = 0 := rfl; have g12 := j_rd ((j_wr (-1) 60 js2 rfl 91 rfl rfl (by have f0 : (0 : Int32).toInt = 0 := rfl; omega)) : JM 6340728883580901023760718496128 s (pI s2 1 1931 0)) 1 1931 (-1) 60 rfl; have g13 : ((pI s2 1 1931 0).1 1 1931).toInt = ((0 : Int32)).toInt := u_eq; omega) (by have g0 : (1 : Int32).toInt = 1 := rfl; have g1 := j_rd js5 0 22 0 3 rfl; have g2 : (s5.1 0 22).toInt = ((pI (pI s2 1 1931 0) 0 22 0).1 0 22).toInt := (by rw [es5]; exact u_ne rfl); have g3 := j_rd js5 0 23 0 30 rfl; have g4 : (s5.1 0 23).toInt = ((0 : Int32)).toInt := (by rw [es5]; exact u_eq); have g5 := j_rd ((j_wr 0 3 (j_wr (-1) 60 js2 rfl 91 rfl rfl (by have f0 : (0 : Int32).toInt = 0 := rfl; omega)) rfl 42 rfl rfl (by have f0 : (0 : Int32).toInt = 0 := rfl; omega)) : JM 6340728883580901023760718496128 s (pI (pI s2 1 1931 0) 0 22 0)) 0 22 0 3 rfl; have g6 : ((pI (pI s2 1 1931 0) 0 22 0).1 0 22).toInt = ((0 : Int32)).toInt := u_eq; have g7 : (0 : Int32).toInt = 0 := rfl; have g8 : BIG = 4294967296 := rfl; omega)
set_option maxRecDepth 20000 in
theorem h_X12_fault (a1 : Int32) {s : Sg} (hR : Rg rM s) : OQ (f_X12_fault a1 s) (fun r9 s9 => JM 0 s s9 ∧ True ∧ (r9 = 0 → 0 ≤ (a1).toInt ∧ (a1).toInt ≤ 1) ∧ (¬ r9 = 0 → True)) := by
  have hJ : JM 0 s s := j_refl hR
  unfold f_X12_fault
  refine oq_if (fun c1 => ?_) (fun c1 => ?_)
  · exact ⟨hJ, trivial, fun w9 => ⟨(by have f0 : (0 : Int32).toInt = 0 := rfl; have f1 := i_rg a1; have f2 := i_eq c1; omega), (by have f0 := i_rg a1; have f1 : (1 : Int32).toInt = 1 := rfl; have f2 := i_eq c1; have f3 : (0 : Int32).toInt = 0 := rfl; omega)⟩, fun _ => trivial⟩
  · refine oq_if (fun c2 => ?_) (fun c2 => ?_)
    · exact ⟨hJ, trivial, fun w9 => ⟨(by have f0 : (0 : Int32).toInt = 0 := rfl; have f1 := i_rg a1; have f2 := i_ne c1; have f3 := i_eq c2; have f4 : (1 : Int32).toInt = 1 := rfl; omega), (by have f0 := i_rg a1; have f1 : (1 : Int32).toInt = 1 := rfl; have f2 := i_ne c1; have f3 := i_eq c2; have f4 : (0 : Int32).toInt = 0 := rfl; omega)⟩, fun _ => trivial⟩
    · exact ⟨hJ, trivial, fun w9 => absurd w9 (by decide), fun _ => trivial⟩
set_option maxRecDepth 20000 in
theorem h_X12_told (a1 : Int32) {s : Sg} (hR : Rg rM s) : OQ (f_X12_told a1 s) (fun r9 s9 => JM 4194304 s s9 ∧ True ∧ (r9 = 0 → 0 ≤ (a1).toInt ∧ (a1).toInt ≤ 10) ∧ (¬ r9 = 0 → True)) := by
  have hJ : JM 4194304 s s := j_refl hR
  unfold f_X12_told
  refine oq_if (fun c1 => ?_) (fun c1 => ?_)
  · refine oq_b (h_X12_refuse _ hJ.1 (by have f0 : (1 : Int32).toInt = 1 := rfl; omega)) (fun r1 s2 hs2 => ?_)
    have js2 : JM 4194304 s s2 := j_call hJ hs2.1 rfl
    exact ⟨js2, trivial, fun w9 => False.elim (by have f0 := hs2.2.1; have f1 := i_rg r1; have f2 := i_rg a1; have f3 := i_lt c1; have f4 := i_eq w9; have f5 : (0 : Int32).toInt = 0 := rfl; omega), fun _ => trivial⟩
  · refine oq_if (fun c2 => ?_) (fun c2 => ?_)
    · refine oq_c (inr_of (by have f0 := i_rg a1; have f1 := i_nlt c1; have f2 := i_le c2; have f3 : (0 : Int32).toInt = 0 := rfl; have f4 : (10 : Int32).toInt = 10 := rfl; omega)) ?_
      refine oq_b (h_X12_gives _ hJ.1) (fun r4 s5 hs5 => ?_)
      have js5 : JM 4194304 s s5 := j_call hJ hs5.1 rfl
      exact ⟨js5, trivial, fun w9 => ⟨(by have f0 : (0 : Int32).toInt = 0 := rfl; have f1 := i_rg a1; have f2 := i_nlt c1; have f3 := i_le c2; have f4 : (10 : Int32).toInt = 10 := rfl; omega), (by have f0 := i_rg a1; have f1 : (10 : Int32).toInt = 10 := rfl; have f2 := i_nlt c1; have f3 := i_le c2; have f4 : (0 : Int32).toInt = 0 := rfl; omega)⟩, fun _ => trivial⟩
    · refine oq_b (h_X12_refuse _ hJ.1 (by have f0 : (1 : Int32).toInt = 1 := rfl; omega)) (fun r6 s7 hs7 => ?_)
      have js7 : JM 4194304 s s7 := j_call hJ hs7.1 rfl
      exact ⟨js7, trivial, fun w9 => False.elim (by have f0 := hs7.2.1; have f1 := i_rg r6; have f2 := i_rg a1; have f3 := i_nlt c1; have f4 := i_nle c2; have f5 := i_eq w9; have f6 : (0 : Int32).toInt = 0 := rfl; have f7 : (10 : Int32).toInt = 10 := rfl; omega), fun _ => trivial⟩
set_option maxRecDepth 20000 in
theorem h_X12_purse  {s : Sg} (hR : Rg rM s) : OQ (f_X12_purse  s) (fun r9 s9 => JM 4194304 s s9 ∧ True ∧ (r9 = 0 → True) ∧ (¬ r9 = 0 → True)) := by
  have hJ : JM 4194304 s s := j_refl hR
  unfold f_X12_purse
  refine oq_b (h_X12_gives _ hJ.1) (fun r1 s2 hs2 => ?_)
  have js2 : JM 4194304 s s2 := j_call hJ hs2.1 rfl
  exact ⟨js2, trivial, fun _ => trivial, fun _ => trivial⟩
set_option maxRecDepth 20000 in
theorem h_X12_quarrelRow (a0 : Int32) {s : Sg} (hR : Rg rM s) (p_a0 : 0 ≤ a0.toInt ∧ a0.toInt ≤ 7) : OQ (f_X12_quarrelRow a0 s) (fun r9 s9 => JM 0 s s9 ∧ ((40 ≤ r9.toInt ∧ r9.toInt ≤ 79) ∧ (r9.toInt = 40 + 5 * a0.toInt)) ∧ (r9 = 0 → True) ∧ (¬ r9 = 0 → True)) := by
  have hJ : JM 0 s s := j_refl hR
  unfold f_X12_quarrelRow
  exact ⟨hJ, ⟨(by have f0 : (((5 : Int32)) * (a0)).toInt = (5) * (a0).toInt := i_mulx ((5 : Int32)) (a0) (show -2147483648 ≤ (5) * (a0).toInt ∧ (5) * (a0).toInt ≤ 2147483647 from (by have f0 := p_a0; have f1 := i_rg a0; omega)); have f1 : (((40 : Int32)) + (5 * a0)).toInt = ((40 : Int32)).toInt + (5 * a0).toInt := i_addx ((40 : Int32)) (5 * a0) (by have f0 : (((5 : Int32)) * (a0)).toInt = (5) * (a0).toInt := i_mulx ((5 : Int32)) (a0) (show -2147483648 ≤ (5) * (a0).toInt ∧ (5) * (a0).toInt ≤ 2147483647 from (by have f0 := p_a0; have f1 := i_rg a0; omega)); have f1 : (40 : Int32).toInt = 40 := rfl; have f2 : (5 : Int32).toInt = 5 := rfl; have f3 := p_a0; have f4 := i_rg a0; omega); have f2 : (40 : Int32).toInt = 40 := rfl; have f3 : (5 : Int32).toInt = 5 := rfl; have f4 := p_a0; have f5 := i_rg a0; omega), (by have g0 : (((5 : Int32)) * (a0)).toInt = (5) * (a0).toInt := i_mulx ((5 : Int32)) (a0) (show -2147483648 ≤ (5) * (a0).toInt ∧ (5) * (a0).toInt ≤ 2147483647 from (by have f0 := p_a0; have f1 := i_rg a0; omega)); have g1 : (((40 : Int32)) + (5 * a0)).toInt = ((40 : Int32)).toInt + (5 * a0).toInt := i_addx ((40 : Int32)) (5 * a0) (by have f0 : (((5 : Int32)) * (a0)).toInt = (5) * (a0).toInt := i_mulx ((5 : Int32)) (a0) (show -2147483648 ≤ (5) * (a0).toInt ∧ (5) * (a0).toInt ≤ 2147483647 from (by have f0 := p_a0; have f1 := i_rg a0; omega)); have f1 : (40 : Int32).toInt = 40 := rfl; have f2 : (5 : Int32).toInt = 5 := rfl; have f3 := p_a0; have f4 := i_rg a0; omega); have g2 : (40 : Int32).toInt = 40 := rfl; have g3 : (5 : Int32).toInt = 5 := rfl; have g4 := p_a0; have g5 := i_rg a0; omega)⟩, fun w9 => False.elim (by have f0 : (((5 : Int32)) * (a0)).toInt = (5) * (a0).toInt := i_mulx ((5 : Int32)) (a0) (show -2147483648 ≤ (5) * (a0).toInt ∧ (5) * (a0).toInt ≤ 2147483647 from (by have f0 := p_a0; have f1 := i_rg a0; omega)); have f1 : (((40 : Int32)) + (5 * a0)).toInt = ((40 : Int32)).toInt + (5 * a0).toInt := i_addx ((40 : Int32)) (5 * a0) (by have f0 : (((5 : Int32)) * (a0)).toInt = (5) * (a0).toInt := i_mulx ((5 : Int32)) (a0) (show -2147483648 ≤ (5) * (a0).toInt ∧ (5) * (a0).toInt ≤ 2147483647 from (by have f0 := p_a0; have f1 := i_rg a0; omega)); have f1 : (40 : Int32).toInt = 40 := rfl; have f2 : (5 : Int32).toInt = 5 := rfl; have f3 := p_a0; have f4 := i_rg a0; omega); have f2 : (40 : Int32).toInt = 40 := rfl; have f3 : (5 : Int32).toInt = 5 := rfl; have f4 := p_a0; have f5 := i_rg a0; have f6 := i_eq w9; have f7 : (0 : Int32).toInt = 0 := rfl; omega), fun _ => trivial⟩
set_option maxRecDepth 20000 in
theorem h_X12_quarrelHouse (a0 : Int32) (a1 : Int32) {s : Sg} (hR : Rg rM s) (p_a0 : 0 ≤ a0.toInt ∧ a0.toInt ≤ 7) (p_a1 : 0 ≤ a1.toInt ∧ a1.toInt ≤ 1) : OQ (f_X12_quarrelHouse a0 a1 s) (fun r9 s9 => JM 0 s s9 ∧ ((40 ≤ r9.toInt ∧ r9.toInt ≤ 80) ∧ (r9.toInt = 40 + 5 * a0.toInt + a1.toInt)) ∧ (r9 = 0 → True) ∧ (¬ r9 = 0 → True)) := by
  have hJ : JM 0 s s := j_refl hR
  unfold f_X12_quarrelHouse
  refine oq_b (h_X12_quarrelRow _ hJ.1 (by have f0 := p_a0; have f1 := i_rg a0; omega)) (fun r1 s2 hs2 => ?_)
  have js2 : JM 0 s s2 := j_call hJ hs2.1 rfl
  exact ⟨js2, ⟨(by have f0 : ((r1) + (a1)).toInt = (r1).toInt + (a1).toInt := i_addx (r1) (a1) (by have f0 := hs2.2.1; have f1 := i_rg r1; have f2 := hs2.2.1.2; have f3 := p_a1; have f4 := i_rg a1; have f5 := p_a0; have f6 := i_rg a0; omega); have f1 := hs2.2.1; have f2 := i_rg r1; have f3 := hs2.2.1.2; have f4 := p_a1; have f5 := i_rg a1; have f6 := p_a0; have f7 := i_rg a0; omega), (by have g0 : ((r1) + (a1)).toInt = (r1).toInt + (a1).toInt := i_addx (r1) (a1) (by have f0 := hs2.2.1; have f1 := i_rg r1; have f2 := hs2.2.1.2; have f3 := p_a1; have f4 := i_rg a1; have f5 := p_a0; have f6 := i_rg a0; omega); have g1 := hs2.2.1; have g2 := i_rg r1; have g3 := hs2.2.1.2; have g4 := p_a1; have g5 := i_rg a1; have g6 := p_a0; have g7 := i_rg a0; omega)⟩, fun w9 => False.elim (by have f0 : ((r1) + (a1)).toInt = (r1).toInt + (a1).toInt := i_addx (r1) (a1) (by have f0 := hs2.2.1; have f1 := i_rg r1; have f2 := hs2.2.1.2; have f3 := p_a1; have f4 := i_rg a1; have f5 := p_a0; have f6 := i_rg a0; omega); have f1 := hs2.2.1; have f2 := i_rg r1; have f3 := hs2.2.1.2; have f4 := p_a1; have f5 := i_rg a1; have f6 := p_a0; have f7 := i_rg a0; have f8 := i_eq w9; have f9 : (0 : Int32).toInt = 0 := rfl; omega), fun _ => trivial⟩
set_option maxRecDepth 20000 in
theorem h_X12_isAt (a1 : Int32) (a2 : Int32) {s : Sg} (hR : Rg rM s) (p_a1 : 0 ≤ a1.toInt ∧ a1.toInt ≤ 7) : OQ (f_X12_isAt a1 a2 s) (fun r9 s9 => JM 0 s s9 ∧ (0 ≤ r9.toInt ∧ r9.toInt ≤ 1) ∧ (r9 = 0 → True) ∧ (¬ r9 = 0 → (-1) ≤ (a2).toInt ∧ (a2).toInt ≤ 7)) := by
  have hJ : JM 0 s s := j_refl hR
  unfold f_X12_isAt
  refine oq_b (h_X12_quarrelHouse _ _ hJ.1 (by have f0 := p_a1; have f1 := i_rg a1; omega) (by have f0 : (0 : Int32).toInt = 0 := rfl; omega)) (fun r1 s2 hs2 => ?_)
  have js2 : JM 0 s s2 := j_call hJ hs2.1 rfl
  refine oq_c (inr_of (by have f0 := hs2.2.1; have f1 := i_rg r1; have f2 := hs2.2.1.2; have f3 := p_a1; have f4 := i_rg a1; have f5 : (0 : Int32).toInt = 0 := rfl; omega)) ?_
  refine oq_if (fun c1 => ?_) (fun c1 => ?_)
  · exact ⟨js2, (by have f0 : (1 : Int32).toInt = 1 := rfl; omega), fun w9 => absurd w9 (by decide), fun w9 => ⟨(by have f0 : ((-1) : Int32).toInt = (-1) := rfl; have f1 := i_rg a2; have f2 := i_eq c1; have f3 := rd_end js2 r1.toNatClampNeg (Or.inl (by have d0 := hs2.2.1; have d1 := i_rg r1; have d2 := hs2.2.1.2; have d3 := p_a1; have d4 := i_rg a1; have d5 : (0 : Int32).toInt = 0 := rfl; have d6 := cl_nat (r1); omega)); omega), (by have f0 := i_rg a2; have f1 : (7 : Int32).toInt = 7 := rfl; have f2 := i_eq c1; have f3 := rd_end js2 r1.toNatClampNeg (Or.inl (by have d0 := hs2.2.1; have d1 := i_rg r1; have d2 := hs2.2.1.2; have d3 := p_a1; have d4 := i_rg a1; have d5 : (0 : Int32).toInt = 0 := rfl; have d6 := cl_nat (r1); omega)); omega)⟩⟩
  · refine oq_b (h_X12_quarrelHouse _ _ js2.1 (by have f0 := p_a1; have f1 := i_rg a1; have f2 := hs2.2.1.2; have f3 : (0 : Int32).toInt = 0 := rfl; have f4 := hs2.2.1; have f5 := i_rg r1; omega) (by have f0 : (1 : Int32).toInt = 1 := rfl; omega)) (fun r4 s5 hs5 => ?_)
    have js5 : JM 0 s s5 := j_call js2 hs5.1 rfl
    refine oq_c (inr_of (by have f0 := hs5.2.1; have f1 := i_rg r4; have f2 := hs5.2.1.2; have f3 := p_a1; have f4 := i_rg a1; have f5 : (1 : Int32).toInt = 1 := rfl; have f6 := hs2.2.1.2; have f7 : (0 : Int32).toInt = 0 := rfl; have f8 := hs2.2.1; have f9 := i_rg r1; omega)) ?_
    refine oq_if (fun c2 => ?_) (fun c2 => ?_)
    · exact ⟨js5, (by have f0 : (1 : Int32).toInt = 1 := rfl; have f1 := hs5.2.1.2; have f2 := p_a1; have f3 := i_rg a1; have f4 := hs5.2.1; have f5 := i_rg r4; have f6 := hs2.2.1.2; have f7 : (0 : Int32).toInt = 0 := rfl; have f8 := hs2.2.1; have f9 := i_rg r1; omega), fun w9 => absurd w9 (by decide), fun w9 => ⟨(by have f0 : ((-1) : Int32).toInt = (-1) := rfl; have f1 := i_rg a2; have f2 := i_ne c1; have f3 := i_eq c2; have f4 := rd_end js2 r1.toNatClampNeg (Or.inl (by have d0 := hs2.2.1; have d1 := i_rg r1; have d2 := hs2.2.1.2; have d3 := p_a1; have d4 := i_rg a1; have d5 : (0 : Int32).toInt = 0 := rfl; have d6 := hs5.2.1.2; have d7 : (1 : Int32).toInt = 1 := rfl; have d8 := hs5.2.1; have d9 := i_rg r4; have d10 := cl_nat (r1); omega)); have f5 := rd_end js5 r4.toNatClampNeg (Or.inl (by have d0 := hs5.2.1; have d1 := i_rg r4; have d2 := hs5.2.1.2; have d3 := p_a1; have d4 := i_rg a1; have d5 : (1 : Int32).toInt = 1 := rfl; have d6 := hs2.2.1.2; have d7 : (0 : Int32).toInt = 0 := rfl; have d8 := hs2.2.1; have d9 := i_rg r1; have d10 := cl_nat (r4); omega)); omega), (by have f0 := i_rg a2; have f1 : (7 : Int32).toInt = 7 := rfl; have f2 := i_ne c1; have f3 := i_eq c2; have f4 := rd_end js2 r1.toNatClampNeg (Or.inl (by have d0 := hs2.2.1; have d1 := i_rg r1; have d2 := hs2.2.1.2; have d3 := p_a1; have d4 := i_rg a1; have d5 : (0 : Int32).toInt = 0 := rfl; have d6 := hs5.2.1.2; have d7 : (1 : Int32).toInt = 1 := rfl; have d8 := hs5.2.1; have d9 := i_rg r4; have d10 := cl_nat (r1); omega)); have f5 := rd_end js5 r4.toNatClampNeg (Or.inl (by have d0 := hs5.2.1; have d1 := i_rg r4; have d2 := hs5.2.1.2; have d3 := p_a1; have d4 := i_rg a1; have d5 : (1 : Int32).toInt = 1 := rfl; have d6 := hs2.2.1.2; have d7 : (0 : Int32).toInt = 0 := rfl; have d8 := hs2.2.1; have d9 := i_rg r1; have d10 := cl_nat (r4); omega)); omega)⟩⟩
    · exact ⟨js5, (by have f0 : (0 : Int32).toInt = 0 := rfl; have f1 := hs2.2.1.2; have f2 := hs5.2.1.2; have f3 := p_a1; have f4 := i_rg a1; have f5 := hs2.2.1; have f6 := i_rg r1; have f7 : (1 : Int32).toInt = 1 := rfl; have f8 := hs5.2.1; have f9 := i_rg r4; omega), fun _ => trivial, fun w9 => absurd rfl w9⟩
set_option maxRecDepth 20000 in
theorem h_X12_houseRow (a0 : Int32) {s : Sg} (hR : Rg rM s) (p_a0 : (-1) ≤ a0.toInt ∧ a0.toInt ≤ 99) : OQ (f_X12_houseRow a0 s) (fun r9 s9 => JM 0 s s9 ∧ ((13 ≤ r9.toInt ∧ r9.toInt ≤ 511) ∧ (r9.toInt = 16 + 3 * a0.toInt)) ∧ (r9 = 0 → True) ∧ (¬ r9 = 0 → True)) := by
  have hJ : JM 0 s s := j_refl hR
  unfold f_X12_houseRow
  exact ⟨hJ, ⟨(by have f0 : (((3 : Int32)) * (a0)).toInt = (3) * (a0).toInt := i_mulx ((3 : Int32)) (a0) (show -2147483648 ≤ (3) * (a0).toInt ∧ (3) * (a0).toInt ≤ 2147483647 from (by have f0 := p_a0; have f1 := i_rg a0; omega)); have f1 : (((16 : Int32)) + (3 * a0)).toInt = ((16 : Int32)).toInt + (3 * a0).toInt := i_addx ((16 : Int32)) (3 * a0) (by have f0 : (((3 : Int32)) * (a0)).toInt = (3) * (a0).toInt := i_mulx ((3 : Int32)) (a0) (show -2147483648 ≤ (3) * (a0).toInt ∧ (3) * (a0).toInt ≤ 2147483647 from (by have f0 := p_a0; have f1 := i_rg a0; omega)); have f1 : (16 : Int32).toInt = 16 := rfl; have f2 : (3 : Int32).toInt = 3 := rfl; have f3 := p_a0; have f4 := i_rg a0; omega); have f2 : (16 : Int32).toInt = 16 := rfl; have f3 : (3 : Int32).toInt = 3 := rfl; have f4 := p_a0; have f5 := i_rg a0; omega), (by have g0 : (((3 : Int32)) * (a0)).toInt = (3) * (a0).toInt := i_mulx ((3 : Int32)) (a0) (show -2147483648 ≤ (3) * (a0).toInt ∧ (3) * (a0).toInt ≤ 2147483647 from (by have f0 := p_a0; have f1 := i_rg a0; omega)); have g1 : (((16 : Int32)) + (3 * a0)).toInt = ((16 : Int32)).toInt + (3 * a0).toInt := i_addx ((16 : Int32)) (3 * a0) (by have f0 : (((3 : Int32)) * (a0)).toInt = (3) * (a0).toInt := i_mulx ((3 : Int32)) (a0) (show -2147483648 ≤ (3) * (a0).toInt ∧ (3) * (a0).toInt ≤ 2147483647 from (by have f0 := p_a0; have f1 := i_rg a0; omega)); have f1 : (16 : Int32).toInt = 16 := rfl; have f2 : (3 : Int32).toInt = 3 := rfl; have f3 := p_a0; have f4 := i_rg a0; omega); have g2 : (16 : Int32).toInt = 16 := rfl; have g3 : (3 : Int32).toInt = 3 := rfl; have g4 := p_a0; have g5 := i_rg a0; omega)⟩, fun w9 => False.elim (by have f0 : (((3 : Int32)) * (a0)).toInt = (3) * (a0).toInt := i_mulx ((3 : Int32)) (a0) (show -2147483648 ≤ (3) * (a0).toInt ∧ (3) * (a0).toInt ≤ 2147483647 from (by have f0 := p_a0; have f1 := i_rg a0; omega)); have f1 : (((16 : Int32)) + (3 * a0)).toInt = ((16 : Int32)).toInt + (3 * a0).toInt := i_addx ((16 : Int32)) (3 * a0) (by have f0 : (((3 : Int32)) * (a0)).toInt = (3) * (a0).toInt := i_mulx ((3 : Int32)) (a0) (show -2147483648 ≤ (3) * (a0).toInt ∧ (3) * (a0).toInt ≤ 2147483647 from (by have f0 := p_a0; have f1 := i_rg a0; omega)); have f1 : (16 : Int32).toInt = 16 := rfl; have f2 : (3 : Int32).toInt = 3 := rfl; have f3 := p_a0; have f4 := i_rg a0; omega); have f2 : (16 : Int32).toInt = 16 := rfl; have f3 : (3 : Int32).toInt = 3 := rfl; have f4 := p_a0; have f5 := i_rg a0; have f6 := i_eq w9; have f7 : (0 : Int32).toInt = 0 := rfl; omega), fun _ => trivial⟩
set_option maxRecDepth 20000 in
theorem h_X12_isHouse (a1 : Int32) {s : Sg} (hR : Rg rM s) : OQ (f_X12_isHouse a1 s) (fun r9 s9 => JM 0 s s9 ∧ (0 ≤ r9.toInt ∧ r9.toInt ≤ 1) ∧ (r9 = 0 → True) ∧ (¬ r9 = 0 → 0 ≤ (a1).toInt ∧ (a1).toInt ≤ 7)) := by
  have hJ : JM 0 s s := j_refl hR
  unfold f_X12_isHouse
  refine oq_if (fun c1 => ?_) (fun c1 => ?_)
  · exact ⟨hJ, (by have f0 : (0 : Int32).toInt = 0 := rfl; omega), fun _ => trivial, fun w9 => absurd rfl w9⟩
  · refine oq_if (fun c2 => ?_) (fun c2 => ?_)
    · exact ⟨hJ, (by have f0 : (0 : Int32).toInt = 0 := rfl; omega), fun _ => trivial, fun w9 => absurd rfl w9⟩
    · exact ⟨hJ, (by have f0 : (1 : Int32).toInt = 1 := rfl; omega), fun w9 => absurd w9 (by decide), fun w9 => ⟨(by have f0 : (0 : Int32).toInt = 0 := rfl; have f1 := i_rg a1; have f2 := i_nlt c1; have f3 := i_nle c2; have f4 := j_rd hJ 1 0 0 8 rfl; omega), (by have f0 := i_rg a1; have f1 : (7 : Int32).toInt = 7 := rfl; have f2 := i_nlt c1; have f3 := i_nle c2; have f4 : (0 : Int32).toInt = 0 := rfl; have f5 := j_rd hJ 1 0 0 8 rfl; omega)⟩⟩
set_option maxRecDepth 20000 in
theorem h_X12_wrongStep (a1 : Int32) {s : Sg} (hR : Rg rM s) : OQ (f_X12_wrongStep a1 s) (fun r9 s9 => JM 0 s s9 ∧ ((0 ≤ r9.toInt ∧ r9.toInt ≤ 7) ∧ (r9.toInt = 1 ∨ (0 ≤ a1.toInt ∧ a1.toInt ≤ 7))) ∧ (r9 = 0 → 0 ≤ (a1).toInt ∧ (a1).toInt ≤ 7) ∧ (¬ r9 = 0 → True)) := by
  have hJ : JM 0 s s := j_refl hR
  unfold f_X12_wrongStep
  refine oq_b (h_X12_isHouse _ hJ.1) (fun r1 s2 hs2 => ?_)
  have js2 : JM 0 s s2 := j_call hJ hs2.1 rfl
  refine oq_if (fun c1 => ?_) (fun c1 => ?_)
  · exact ⟨js2, ⟨(by have f0 : (1 : Int32).toInt = 1 := rfl; omega), (by have g0 : (1 : Int32).toInt = 1 := rfl; have g1 := i_rg a1; omega)⟩, fun w9 => absurd w9 (by decide), fun _ => trivial⟩
  · refine oq_b (h_X12_isGone _ js2.1 (by have f0 := i_rg a1; have f1 := (hs2.2.2.2 c1).1; have f2 := (hs2.2.2.2 c1).2; have f3 : (0 : Int32).toInt = 0 := rfl; have f4 : (7 : Int32).toInt = 7 := rfl; omega)) (fun r3 s4 hs4 => ?_)
    have js4 : JM 0 s s4 := j_call js2 hs4.1 rfl
    refine oq_if (fun c2 => ?_) (fun c2 => ?_)
    · exact ⟨js4, ⟨(by have f0 : (0 : Int32).toInt = 0 := rfl; omega), (by have g0 : (0 : Int32).toInt = 0 := rfl; have g1 := i_rg a1; have g2 := (hs2.2.2.2 c1).1; have g3 := (hs2.2.2.2 c1).2; have g4 : (7 : Int32).toInt = 7 := rfl; omega)⟩, fun w9 => ⟨(by have f0 : (0 : Int32).toInt = 0 := rfl; have f1 := i_rg a1; have f2 := (hs2.2.2.2 c1).1; have f3 := (hs2.2.2.2 c1).2; have f4 : (7 : Int32).toInt = 7 := rfl; omega), (by have f0 := i_rg a1; have f1 : (7 : Int32).toInt = 7 := rfl; have f2 := (hs2.2.2.2 c1).1; have f3 := (hs2.2.2.2 c1).2; have f4 : (0 : Int32).toInt = 0 := rfl; omega)⟩, fun w9 => absurd rfl w9⟩
    · exact ⟨js4, ⟨(by have f0 : (7 : Int32).toInt = 7 := rfl; omega), (by have g0 : (7 : Int32).toInt = 7 := rfl; have g1 := i_rg a1; have g2 := (hs2.2.2.2 c1).1; have g3 := (hs2.2.2.2 c1).2; have g4 : (0 : Int32).toInt = 0 := rfl; omega)⟩, fun w9 => absurd w9 (by decide), fun _ => trivial⟩
set_option maxRecDepth 20000 in
theorem h_X12_step_b56 {s0 : Sg} (n : Nat) : ∀ (v1 : Int32) (v4 : Int32) (v5 : Int32) (s : Sg), JM 4194304 s0 s → 0 ≤ v4.toInt ∧ v4.toInt ≤ 511 → 0 ≤ v5.toInt ∧ v5.toInt ≤ 8 → 8 - v5.toInt < (n : Int) → OQ (f_X12_step_b56 n v1 v4 v5 s) (fun r9 s9 => JM 4194304 s0 s9 ∧ True ∧ (r9 = 0 → True) ∧ (¬ r9 = 0 → True)) := by
  induction n with
  | zero => intro v1 v4 v5 s hJ p_v4 p_v5 hn; exact False.elim (by have g0 := hn; have g1 := p_v4; have g2 := p_v5; have g3 := i_rg v1; have g4 := i_rg v4; have g5 := i_rg v5; omega)
  | succ n ih =>
    intro v1 v4 v5 s hJ p_v4 p_v5 hn
    unfold f_X12_step_b56
    refine oq_if (fun c1 => ?_) (fun c1 => ?_)
    · refine oq_b (h_X12_gives _ hJ.1) (fun r1 s2 hs2 => ?_)
      have js2 : JM 4194304 s0 s2 := j_call hJ hs2.1 rfl
      exact ⟨js2, trivial, fun _ => trivial, fun _ => trivial⟩
    · refine oq_b (h_X12_isAt _ _ hJ.1 (by have f0 := p_v5; have f1 := i_rg v5; have f2 := i_nle c1; have f3 := j_rd hJ 1 1 0 8 rfl; omega)) (fun r3 s4 hs4 => ?_)
      have js4 : JM 4194304 s0 s4 := j_call hJ hs4.1 rfl
      refine oq_if (fun c2 => ?_) (fun c2 => ?_)
      · exact ih _ _ _ _ js4 (by have f0 := i_or (v4) ((0 : Int32)) (by have f0 := p_v4; have f1 := i_rg v4; omega) (by have f0 : (0 : Int32).toInt = 0 := rfl; omega); have f1 := p_v4; have f2 := i_rg v4; have f3 : (0 : Int32).toInt = 0 := rfl; omega) (by have f0 : ((v5) + ((1 : Int32))).toInt = (v5).toInt + ((1 : Int32)).toInt := i_addx (v5) ((1 : Int32)) (by have f0 := p_v5; have f1 := i_rg v5; have f2 : (1 : Int32).toInt = 1 := rfl; have f3 := i_nle c1; have f4 := j_rd hJ 1 1 0 8 rfl; omega); have f1 := p_v5; have f2 := i_rg v5; have f3 : (1 : Int32).toInt = 1 := rfl; have f4 := i_nle c1; have f5 := j_rd hJ 1 1 0 8 rfl; omega) (by have g0 := i_or (v4) ((0 : Int32)) (by have f0 := p_v4; have f1 := i_rg v4; omega) (by have f0 : (0 : Int32).toInt = 0 := rfl; omega); have g1 : ((v5) + ((1 : Int32))).toInt = (v5).toInt + ((1 : Int32)).toInt := i_addx (v5) ((1 : Int32)) (by have f0 := p_v5; have f1 := i_rg v5; have f2 : (1 : Int32).toInt = 1 := rfl; have f3 := i_nle c1; have f4 := j_rd hJ 1 1 0 8 rfl; omega); have g2 := i_rg v1; have g3 := p_v4; have g4 := i_rg v4; have g5 : (0 : Int32).toInt = 0 := rfl; have g6 := p_v5; have g7 := i_rg v5; have g8 : (1 : Int32).toInt = 1 := rfl; have g9 := i_nle c1; have g10 := j_rd hJ 1 1 0 8 rfl; have g11 := hn; omega)
      · refine oq_n (fun x5 ex5 => ?_)
        exact ih _ _ _ _ js4 (by have f0 := i_eq ex5; have f1 := i_and (v5) ((31 : Int32)) (by decide); have f2 := i_sh (v5) (by have f0 := p_v5; have f1 := i_rg v5; have f2 := i_nle c1; have f3 := j_rd hJ 1 1 0 8 rfl; omega); have f3 := i_or (v4) ((1 : Int32) <<< (v5 &&& 31)) (by have f0 := p_v4; have f1 := i_rg v4; omega) (by have f0 := i_and (v5) ((31 : Int32)) (by decide); have f1 := i_sh (v5) (by have f0 := p_v5; have f1 := i_rg v5; have f2 := i_nle c1; have f3 := j_rd hJ 1 1 0 8 rfl; omega); have f2 : (1 : Int32).toInt = 1 := rfl; have f3 := p_v5; have f4 := i_rg v5; have f5 : (31 : Int32).toInt = 31 := rfl; have f6 := i_nle c1; have f7 := j_rd hJ 1 1 0 8 rfl; omega); have f4 := i_rg x5; have f5 := p_v4; have f6 := i_rg v4; have f7 : (1 : Int32).toInt = 1 := rfl; have f8 := p_v5; have f9 := i_rg v5; have f10 : (31 : Int32).toInt = 31 := rfl; have f11 := i_nle c1; have f12 := j_rd hJ 1 1 0 8 rfl; omega) (by have f0 : ((v5) + ((1 : Int32))).toInt = (v5).toInt + ((1 : Int32)).toInt := i_addx (v5) ((1 : Int32)) (by have f0 := p_v5; have f1 := i_rg v5; have f2 : (1 : Int32).toInt = 1 := rfl; have f3 := i_nle c1; have f4 := j_rd hJ 1 1 0 8 rfl; omega); have f1 := p_v5; have f2 := i_rg v5; have f3 : (1 : Int32).toInt = 1 := rfl; have f4 := i_nle c1; have f5 := j_rd hJ 1 1 0 8 rfl; omega) (by have g0 : ((v5) + ((1 : Int32))).toInt = (v5).toInt + ((1 : Int32)).toInt := i_addx (v5) ((1 : Int32)) (by have f0 := p_v5; have f1 := i_rg v5; have f2 : (1 : Int32).toInt = 1 := rfl; have f3 := i_nle c1; have f4 := j_rd hJ 1 1 0 8 rfl; omega); have g1 := i_rg v1; have g2 := i_eq ex5; have g3 := i_and (v5) ((31 : Int32)) (by decide); have g4 := i_sh (v5) (by have f0 := p_v5; have f1 := i_rg v5; have f2 := i_nle c1; have f3 := j_rd hJ 1 1 0 8 rfl; omega); have g5 := i_or (v4) ((1 : Int32) <<< (v5 &&& 31)) (by have f0 := p_v4; have f1 := i_rg v4; omega) (by have f0 := i_and (v5) ((31 : Int32)) (by decide); have f1 := i_sh (v5) (by have f0 := p_v5; have f1 := i_rg v5; have f2 := i_nle c1; have f3 := j_rd hJ 1 1 0 8 rfl; omega); have f2 : (1 : Int32).toInt = 1 := rfl; have f3 := p_v5; have f4 := i_rg v5; have f5 : (31 : Int32).toInt = 31 := rfl; have f6 := i_nle c1; have f7 := j_rd hJ 1 1 0 8 rfl; omega); have g6 := i_rg x5; have g7 := p_v5; have g8 := i_rg v5; have g9 : (1 : Int32).toInt = 1 := rfl; have g10 := p_v4; have g11 := i_rg v4; have g12 : (31 : Int32).toInt = 31 := rfl; have g13 := i_nle c1; have g14 := (hs4.2.2.2 c2).1; have g15 := (hs4.2.2.2 c2).2; have g16 := j_rd hJ 1 1 0 8 rfl; have g17 : ((-1) : Int32).toInt = (-1) := rfl; have g18 : (7 : Int32).toInt = 7 := rfl; have g19 := hn; omega)
set_option maxRecDepth 20000 in
theorem h_X12_step_b18 {s0 : Sg} (v1 : Int32) (v2 : Int32) (t0 : Int32) (s : Sg) (hJ : JM 4194304 s0 s) (p_t0 : 0 ≤ t0.toInt ∧ t0.toInt ≤ 7) (x_1 : (t0.toInt = 1 ∨ (0 ≤ v1.toInt ∧ v1.toInt ≤ 7 ∧ 0 ≤ v2.toInt ∧ v2.toInt ≤ 3))) : OQ (f_X12_step_b18 v1 v2 t0 s) (fun r9 s9 => JM 4194304 s0 s9 ∧ True ∧ (r9 = 0 → True) ∧ (¬ r9 = 0 → True)) := by
  unfold f_X12_step_b18
  refine oq_if (fun c1 => ?_) (fun c1 => ?_)
  · refine oq_if (fun c2 => ?_) (fun c2 => ?_)
    · exact h_X12_step_b56 BIG _ _ _ _ hJ (by have f0 : (0 : Int32).toInt = 0 := rfl; omega) (by have f0 : (0 : Int32).toInt = 0 := rfl; omega) (by have g0 := i_rg v1; have g1 : (0 : Int32).toInt = 0 := rfl; have g2 := x_1; have g3 := i_le c1; have g4 := i_le c2; have g5 := p_t0; have g6 := i_rg t0; have g7 := i_rg v2; have g8 : (3 : Int32).toInt = 3 := rfl; have g9 : BIG = 4294967296 := rfl; omega)
    · refine oq_b (h_X12_houseRow _ hJ.1 (by have f0 := i_rg v1; have f1 := x_1; have f2 := i_le c1; have f3 := i_nle c2; have f4 := p_t0; have f5 := i_rg t0; have f6 := i_rg v2; have f7 : (0 : Int32).toInt = 0 := rfl; have f8 : (3 : Int32).toInt = 3 := rfl; omega)) (fun r6 s7 hs7 => ?_)
      have js7 : JM 4194304 s0 s7 := j_call hJ hs7.1 rfl
      refine oq_c (inr_of (by have f0 : ((r6) + (v2)).toInt = (r6).toInt + (v2).toInt := i_addx (r6) (v2) (by have f0 := hs7.2.1; have f1 := i_rg r6; have f2 := hs7.2.1.2; have f3 := i_rg v2; have f4 := i_rg v1; have f5 := x_1; have f6 := i_le c1; have f7 := i_nle c2; have f8 := p_t0; have f9 := i_rg t0; have f10 : (0 : Int32).toInt = 0 := rfl; have f11 : (3 : Int32).toInt = 3 := rfl; omega); have f1 := hs7.2.1; have f2 := i_rg r6; have f3 := hs7.2.1.2; have f4 := i_rg v2; have f5 := i_rg v1; have f6 := x_1; have f7 := i_le c1; have f8 := i_nle c2; have f9 := p_t0; have f10 := i_rg t0; have f11 : (0 : Int32).toInt = 0 := rfl; have f12 : (3 : Int32).toInt = 3 := rfl; omega)) ?_
      refine oq_b (h_X12_gives _ js7.1) (fun r9 s10 hs10 => ?_)
      have js10 : JM 4194304 s0 s10 := j_call js7 hs10.1 rfl
      exact ⟨js10, trivial, fun _ => trivial, fun _ => trivial⟩
  · refine oq_b (h_X12_refuse _ hJ.1 (by have f0 := p_t0; have f1 := i_rg t0; have f2 := x_1; have f3 := i_nle c1; have f4 := i_rg v1; have f5 := i_rg v2; have f6 : (0 : Int32).toInt = 0 := rfl; omega)) (fun r11 s12 hs12 => ?_)
    have js12 : JM 4194304 s0 s12 := j_call hJ hs12.1 rfl
    exact ⟨js12, trivial, fun w9 => False.elim (by have f0 := hs12.2.1; have f1 := i_rg r11; have f2 := p_t0; have f3 := i_rg t0; have f4 := x_1; have f5 := i_nle c1; have f6 := i_eq w9; have f7 := i_rg v1; have f8 := i_rg v2; have f9 : (0 : Int32).toInt = 0 := rfl; omega), fun _ => trivial⟩
set_option maxRecDepth 20000 in
theorem h_X12_step_b9 {s0 : Sg} (v1 : Int32) (v2 : Int32) (s : Sg) (hJ : JM 4194304 s0 s) : OQ (f_X12_step_b9 v1 v2 s) (fun r9 s9 => JM 4194304 s0 s9 ∧ True ∧ (r9 = 0 → True) ∧ (¬ r9 = 0 → True)) := by
  unfold f_X12_step_b9
  exact h_X12_step_b18 _ _ _ _ hJ (by have f0 : (1 : Int32).toInt = 1 := rfl; omega) (by have g0 : (1 : Int32).toInt = 1 := rfl; have g1 := i_rg v1; have g2 := i_rg v2; omega)
set_option maxRecDepth 20000 in
theorem h_X12_step (a1 : Int32) (a2 : Int32) {s : Sg} (hR : Rg rM s) : OQ (f_X12_step a1 a2 s) (fun r9 s9 => JM 4194304 s s9 ∧ True ∧ (r9 = 0 → True) ∧ (¬ r9 = 0 → True)) := by
  have hJ : JM 4194304 s s := j_refl hR
  unfold f_X12_step
  refine oq_if (fun c1 => ?_) (fun c1 => ?_)
  · exact h_X12_step_b9 _ _ _ hJ
  · refine oq_if (fun c2 => ?_) (fun c2 => ?_)
    · refine oq_b (h_X12_wrongStep _ hJ.1) (fun r13 s14 hs14 => ?_)
      have js14 : JM 4194304 s s14 := j_call hJ hs14.1 rfl
      exact h_X12_step_b18 _ _ _ _ js14 (by have f0 := hs14.2.1; have f1 := i_rg r13; have f2 := hs14.2.1.2; have f3 := i_rg a1; omega) (by have g0 := hs14.2.1; have g1 := i_rg r13; have g2 := hs14.2.1.2; have g3 := i_rg a1; have g4 := i_rg a2; have g5 := i_nlt c1; have g6 := i_le c2; have g7 : (0 : Int32).toInt = 0 := rfl; have g8 : (3 : Int32).toInt = 3 := rfl; omega)
    · exact h_X12_step_b9 _ _ _ hJ
set_option maxRecDepth 20000 in
theorem h_X12_isQuarrel (a1 : Int32) {s : Sg} (hR : Rg rM s) : OQ (f_X12_isQuarrel a1 s) (fun r9 s9 => JM 0 s s9 ∧ (0 ≤ r9.toInt ∧ r9.toInt ≤ 1) ∧ (r9 = 0 → True) ∧ (¬ r9 = 0 → 0 ≤ (a1).toInt ∧ (a1).toInt ≤ 7)) := by
  have hJ : JM 0 s s := j_refl hR
  unfold f_X12_isQuarrel
  refine oq_if (fun c1 => ?_) (fun c1 => ?_)
  · exact ⟨hJ, (by have f0 : (0 : Int32).toInt = 0 := rfl; omega), fun _ => trivial, fun w9 => absurd rfl w9⟩
  · refine oq_if (fun c2 => ?_) (fun c2 => ?_)
    · exact ⟨hJ, (by have f0 : (0 : Int32).toInt = 0 := rfl; omega), fun _ => trivial, fun w9 => absurd rfl w9⟩
    · exact ⟨hJ, (by have f0 : (1 : Int32).toInt = 1 := rfl; omega), fun w9 => absurd w9 (by decide), fun w9 => ⟨(by have f0 : (0 : Int32).toInt = 0 := rfl; have f1 := i_rg a1; have f2 := i_nlt c1; have f3 := i_nle c2; have f4 := j_rd hJ 1 1 0 8 rfl; omega), (by have f0 := i_rg a1; have f1 : (7 : Int32).toInt = 7 := rfl; have f2 := i_nlt c1; have f3 := i_nle c2; have f4 : (0 : Int32).toInt = 0 := rfl; have f5 := j_rd hJ 1 1 0 8 rfl; omega)⟩⟩
set_option maxRecDepth 20000 in
theorem h_X12_quarrel (a1 : Int32) (a2 : Int32) {s : Sg} (hR : Rg rM s) : OQ (f_X12_quarrel a1 a2 s) (fun r9 s9 => JM 4194304 s s9 ∧ True ∧ (r9 = 0 → 0 ≤ (a1).toInt ∧ (a1).toInt ≤ 7 ∧ 0 ≤ (a2).toInt ∧ (a2).toInt ≤ 4) ∧ (¬ r9 = 0 → True)) := by
  have hJ : JM 4194304 s s := j_refl hR
  unfold f_X12_quarrel
  refine oq_b (h_X12_isQuarrel _ hJ.1) (fun r1 s2 hs2 => ?_)
  have js2 : JM 4194304 s s2 := j_call hJ hs2.1 rfl
  refine oq_if (fun c1 => ?_) (fun c1 => ?_)
  · refine oq_b (h_X12_refuse _ js2.1 (by have f0 : (1 : Int32).toInt = 1 := rfl; omega)) (fun r3 s4 hs4 => ?_)
    have js4 : JM 4194304 s s4 := j_call js2 hs4.1 rfl
    exact ⟨js4, trivial, fun w9 => False.elim (by have f0 := hs4.2.1; have f1 := i_rg r3; have f2 := hs2.2.1; have f3 := i_rg r1; have f4 := i_eq c1; have f5 := i_eq w9; have f6 : (0 : Int32).toInt = 0 := rfl; omega), fun _ => trivial⟩
  · refine oq_if (fun c2 => ?_) (fun c2 => ?_)
    · refine oq_b (h_X12_refuse _ js2.1 (by have f0 : (1 : Int32).toInt = 1 := rfl; omega)) (fun r5 s6 hs6 => ?_)
      have js6 : JM 4194304 s s6 := j_call js2 hs6.1 rfl
      exact ⟨js6, trivial, fun w9 => False.elim (by have f0 := hs6.2.1; have f1 := i_rg r5; have f2 := hs2.2.1; have f3 := i_rg r1; have f4 := i_rg a1; have f5 := i_rg a2; have f6 := i_ne c1; have f7 := (hs2.2.2.2 c1).1; have f8 := (hs2.2.2.2 c1).2; have f9 := i_lt c2; have f10 := i_eq w9; have f11 : (0 : Int32).toInt = 0 := rfl; have f12 : (7 : Int32).toInt = 7 := rfl; omega), fun _ => trivial⟩
    · refine oq_if (fun c3 => ?_) (fun c3 => ?_)
      · refine oq_b (h_X12_refuse _ js2.1 (by have f0 : (1 : Int32).toInt = 1 := rfl; omega)) (fun r7 s8 hs8 => ?_)
        have js8 : JM 4194304 s s8 := j_call js2 hs8.1 rfl
        exact ⟨js8, trivial, fun w9 => False.elim (by have f0 := hs8.2.1; have f1 := i_rg r7; have f2 := hs2.2.1; have f3 := i_rg r1; have f4 := i_rg a1; have f5 := i_rg a2; have f6 := i_ne c1; have f7 := (hs2.2.2.2 c1).1; have f8 := (hs2.2.2.2 c1).2; have f9 := i_nlt c2; have f10 := i_lt c3; have f11 := i_eq w9; have f12 : (0 : Int32).toInt = 0 := rfl; have f13 : (7 : Int32).toInt = 7 := rfl; have f14 : (4 : Int32).toInt = 4 := rfl; omega), fun _ => trivial⟩
      · refine oq_b (h_X12_quarrelRow _ js2.1 (by have f0 := i_rg a1; have f1 := (hs2.2.2.2 c1).1; have f2 := (hs2.2.2.2 c1).2; have f3 : (0 : Int32).toInt = 0 := rfl; have f4 : (7 : Int32).toInt = 7 := rfl; omega)) (fun r9 s10 hs10 => ?_)
        have js10 : JM 4194304 s s10 := j_call js2 hs10.1 rfl
        refine oq_c (inr_of (by have f0 : ((r9) + (a2)).toInt = (r9).toInt + (a2).toInt := i_addx (r9) (a2) (by have f0 := hs10.2.1; have f1 := i_rg r9; have f2 := hs10.2.1.2; have f3 := i_rg a2; have f4 := i_rg a1; have f5 := (hs2.2.2.2 c1).1; have f6 := (hs2.2.2.2 c1).2; have f7 := i_nlt c2; have f8 := i_nlt c3; have f9 : (0 : Int32).toInt = 0 := rfl; have f10 : (7 : Int32).toInt = 7 := rfl; have f11 : (4 : Int32).toInt = 4 := rfl; omega); have f1 := hs10.2.1; have f2 := i_rg r9; have f3 := hs10.2.1.2; have f4 := i_rg a2; have f5 := i_rg a1; have f6 := (hs2.2.2.2 c1).1; have f7 := (hs2.2.2.2 c1).2; have f8 := i_nlt c2; have f9 := i_nlt c3; have f10 : (0 : Int32).toInt = 0 := rfl; have f11 : (7 : Int32).toInt = 7 := rfl; have f12 : (4 : Int32).toInt = 4 := rfl; omega)) ?_
        refine oq_b (h_X12_gives _ js10.1) (fun r12 s13 hs13 => ?_)
        have js13 : JM 4194304 s s13 := j_call js10 hs13.1 rfl
        exact ⟨js13, trivial, fun w9 => ⟨(by have f0 : (0 : Int32).toInt = 0 := rfl; have f1 := i_rg a1; have f2 := hs10.2.1.2; have f3 := (hs2.2.2.2 c1).1; have f4 := (hs2.2.2.2 c1).2; have f5 := hs10.2.1; have f6 := i_rg r9; have f7 : (7 : Int32).toInt = 7 := rfl; omega), (by have f0 := i_rg a1; have f1 : (7 : Int32).toInt = 7 := rfl; have f2 := hs10.2.1.2; have f3 := (hs2.2.2.2 c1).1; have f4 := (hs2.2.2.2 c1).2; have f5 := hs10.2.1; have f6 := i_rg r9; have f7 : (0 : Int32).toInt = 0 := rfl; omega), (by have f0 : (0 : Int32).toInt = 0 := rfl; have f1 := i_rg a2; have f2 := i_nlt c2; have f3 := i_nlt c3; have f4 : (4 : Int32).toInt = 4 := rfl; omega), (by have f0 := i_rg a2; have f1 : (4 : Int32).toInt = 4 := rfl; have f2 := i_nlt c2; have f3 := i_nlt c3; have f4 : (0 : Int32).toInt = 0 := rfl; omega)⟩, fun _ => trivial⟩
set_option maxRecDepth 20000 in
theorem h_X12_grocer (a1 : Int32) (a2 : Int32) {s : Sg} (hR : Rg rM s) : OQ (f_X12_grocer a1 a2 s) (fun r9 s9 => JM 4194304 s s9 ∧ True ∧ (r9 = 0 → 0 ≤ (a1).toInt ∧ (a1).toInt ≤ 3 ∧ 0 ≤ (a2).toInt ∧ (a2).toInt ≤ 2) ∧ (¬ r9 = 0 → True)) := by
  have hJ : JM 4194304 s s := j_refl hR
  unfold f_X12_grocer
  refine oq_if (fun c1 => ?_) (fun c1 => ?_)
  · refine oq_b (h_X12_refuse _ hJ.1 (by have f0 : (1 : Int32).toInt = 1 := rfl; omega)) (fun r1 s2 hs2 => ?_)
    have js2 : JM 4194304 s s2 := j_call hJ hs2.1 rfl
    exact ⟨js2, trivial, fun w9 => False.elim (by have f0 := hs2.2.1; have f1 := i_rg r1; have f2 := i_rg a1; have f3 := i_lt c1; have f4 := i_eq w9; have f5 : (0 : Int32).toInt = 0 := rfl; omega), fun _ => trivial⟩
  · refine oq_if (fun c2 => ?_) (fun c2 => ?_)
    · refine oq_b (h_X12_refuse _ hJ.1 (by have f0 : (1 : Int32).toInt = 1 := rfl; omega)) (fun r3 s4 hs4 => ?_)
      have js4 : JM 4194304 s s4 := j_call hJ hs4.1 rfl
      exact ⟨js4, trivial, fun w9 => False.elim (by have f0 := hs4.2.1; have f1 := i_rg r3; have f2 := i_rg a1; have f3 := j_rd hJ 1 3 0 4 rfl; have f4 := i_nlt c1; have f5 := i_le c2; have f6 := i_eq w9; have f7 : (0 : Int32).toInt = 0 := rfl; omega), fun _ => trivial⟩
    · refine oq_if (fun c3 => ?_) (fun c3 => ?_)
      · refine oq_b (h_X12_refuse _ hJ.1 (by have f0 : (1 : Int32).toInt = 1 := rfl; omega)) (fun r5 s6 hs6 => ?_)
        have js6 : JM 4194304 s s6 := j_call hJ hs6.1 rfl
        exact ⟨js6, trivial, fun w9 => False.elim (by have f0 := hs6.2.1; have f1 := i_rg r5; have f2 := i_rg a1; have f3 := j_rd hJ 1 3 0 4 rfl; have f4 := i_rg a2; have f5 := i_nlt c1; have f6 := i_nle c2; have f7 := i_lt c3; have f8 := i_eq w9; have f9 : (0 : Int32).toInt = 0 := rfl; omega), fun _ => trivial⟩
      · refine oq_if (fun c4 => ?_) (fun c4 => ?_)
        · refine oq_b (h_X12_refuse _ hJ.1 (by have f0 : (1 : Int32).toInt = 1 := rfl; omega)) (fun r7 s8 hs8 => ?_)
          have js8 : JM 4194304 s s8 := j_call hJ hs8.1 rfl
          exact ⟨js8, trivial, fun w9 => False.elim (by have f0 := hs8.2.1; have f1 := i_rg r7; have f2 := i_rg a1; have f3 := j_rd hJ 1 3 0 4 rfl; have f4 := i_rg a2; have f5 := i_nlt c1; have f6 := i_nle c2; have f7 := i_nlt c3; have f8 := i_lt c4; have f9 := i_eq w9; have f10 : (0 : Int32).toInt = 0 := rfl; have f11 : (2 : Int32).toInt = 2 := rfl; omega), fun _ => trivial⟩
        · refine oq_c (inr_of (by have f0 : (((3 : Int32)) * (a1)).toInt = (3) * (a1).toInt := i_mulx ((3 : Int32)) (a1) (show -2147483648 ≤ (3) * (a1).toInt ∧ (3) * (a1).toInt ≤ 2147483647 from (by have f0 := i_rg a1; have f1 := i_nlt c1; have f2 := i_nle c2; have f3 : (0 : Int32).toInt = 0 := rfl; have f4 := j_rd hJ 1 3 0 4 rfl; omega)); have f1 : (((92 : Int32)) + (3 * a1)).toInt = ((92 : Int32)).toInt + (3 * a1).toInt := i_addx ((92 : Int32)) (3 * a1) (by have f0 : (((3 : Int32)) * (a1)).toInt = (3) * (a1).toInt := i_mulx ((3 : Int32)) (a1) (show -2147483648 ≤ (3) * (a1).toInt ∧ (3) * (a1).toInt ≤ 2147483647 from (by have f0 := i_rg a1; have f1 := i_nlt c1; have f2 := i_nle c2; have f3 : (0 : Int32).toInt = 0 := rfl; have f4 := j_rd hJ 1 3 0 4 rfl; omega)); have f1 : (92 : Int32).toInt = 92 := rfl; have f2 : (3 : Int32).toInt = 3 := rfl; have f3 := i_rg a1; have f4 := i_nlt c1; have f5 := i_nle c2; have f6 : (0 : Int32).toInt = 0 := rfl; have f7 := j_rd hJ 1 3 0 4 rfl; omega); have f2 : ((92 + (3 * a1)) + (a2)).toInt = (92 + (3 * a1)).toInt + (a2).toInt := i_addx (92 + (3 * a1)) (a2) (by have f0 : (((3 : Int32)) * (a1)).toInt = (3) * (a1).toInt := i_mulx ((3 : Int32)) (a1) (show -2147483648 ≤ (3) * (a1).toInt ∧ (3) * (a1).toInt ≤ 2147483647 from (by have f0 := i_rg a1; have f1 := i_nlt c1; have f2 := i_nle c2; have f3 : (0 : Int32).toInt = 0 := rfl; have f4 := j_rd hJ 1 3 0 4 rfl; omega)); have f1 : (((92 : Int32)) + (3 * a1)).toInt = ((92 : Int32)).toInt + (3 * a1).toInt := i_addx ((92 : Int32)) (3 * a1) (by have f0 : (((3 : Int32)) * (a1)).toInt = (3) * (a1).toInt := i_mulx ((3 : Int32)) (a1) (show -2147483648 ≤ (3) * (a1).toInt ∧ (3) * (a1).toInt ≤ 2147483647 from (by have f0 := i_rg a1; have f1 := i_nlt c1; have f2 := i_nle c2; have f3 : (0 : Int32).toInt = 0 := rfl; have f4 := j_rd hJ 1 3 0 4 rfl; omega)); have f1 : (92 : Int32).toInt = 92 := rfl; have f2 : (3 : Int32).toInt = 3 := rfl; have f3 := i_rg a1; have f4 := i_nlt c1; have f5 := i_nle c2; have f6 : (0 : Int32).toInt = 0 := rfl; have f7 := j_rd hJ 1 3 0 4 rfl; omega); have f2 : (92 : Int32).toInt = 92 := rfl; have f3 : (3 : Int32).toInt = 3 := rfl; have f4 := i_rg a1; have f5 := i_rg a2; have f6 := i_nlt c1; have f7 := i_nle c2; have f8 := i_nlt c3; have f9 := i_nlt c4; have f10 : (0 : Int32).toInt = 0 := rfl; have f11 := j_rd hJ 1 3 0 4 rfl; have f12 : (2 : Int32).toInt = 2 := rfl; omega); have f3 : (92 : Int32).toInt = 92 := rfl; have f4 : (3 : Int32).toInt = 3 := rfl; have f5 := i_rg a1; have f6 := i_rg a2; have f7 := i_nlt c1; have f8 := i_nle c2; have f9 := i_nlt c3; have f10 := i_nlt c4; have f11 : (0 : Int32).toInt = 0 := rfl; have f12 := j_rd hJ 1 3 0 4 rfl; have f13 : (2 : Int32).toInt = 2 := rfl; omega)) ?_
          refine oq_b (h_X12_gives _ hJ.1) (fun r10 s11 hs11 => ?_)
          have js11 : JM 4194304 s s11 := j_call hJ hs11.1 rfl
          exact ⟨js11, trivial, fun w9 => ⟨(by have f0 : (0 : Int32).toInt = 0 := rfl; have f1 := i_rg a1; have f2 := i_nlt c1; have f3 := i_nle c2; have f4 := j_rd hJ 1 3 0 4 rfl; omega), (by have f0 := i_rg a1; have f1 : (3 : Int32).toInt = 3 := rfl; have f2 := i_nlt c1; have f3 := i_nle c2; have f4 : (0 : Int32).toInt = 0 := rfl; have f5 := j_rd hJ 1 3 0 4 rfl; omega), (by have f0 : (0 : Int32).toInt = 0 := rfl; have f1 := i_rg a2; have f2 := i_nlt c3; have f3 := i_nlt c4; have f4 : (2 : Int32).toInt = 2 := rfl; omega), (by have f0 := i_rg a2; have f1 : (2 : Int32).toInt = 2 := rfl; have f2 := i_nlt c3; have f3 := i_nlt c4; have f4 : (0 : Int32).toInt = 0 := rfl; omega)⟩, fun _ => trivial⟩
set_option maxRecDepth 20000 in
theorem h_X12_grainsOn (a1 : Int32) {s : Sg} (hR : Rg rM s) (p_a1 : (-1) ≤ a1.toInt ∧ a1.toInt ≤ 99) : OQ (f_X12_grainsOn a1 s) (fun r9 s9 => JM 0 s s9 ∧ (True ∧ (r9 = gsum s a1)) ∧ (r9 = 0 → True) ∧ (¬ r9 = 0 → True)) := by
  have hJ : JM 0 s s := j_refl hR
  unfold f_X12_grainsOn
  refine oq_b (h_X12_houseRow _ hJ.1 (by have f0 := p_a1; have f1 := i_rg a1; omega)) (fun r1 s2 hs2 => ?_)
  have js2 : JM 0 s s2 := j_call hJ hs2.1 rfl
  refine oq_c (inr_of (by have f0 := hs2.2.1; have f1 := i_rg r1; have f2 := hs2.2.1.2; have f3 := p_a1; have f4 := i_rg a1; omega)) ?_
  refine oq_b (h_X12_houseRow _ js2.1 (by have f0 := p_a1; have f1 := i_rg a1; have f2 := hs2.2.1.2; have f3 := hs2.2.1; have f4 := i_rg r1; omega)) (fun r4 s5 hs5 => ?_)
  have js5 : JM 0 s s5 := j_call js2 hs5.1 rfl
  refine oq_c (inr_of (by have f0 : ((r4) + ((1 : Int32))).toInt = (r4).toInt + ((1 : Int32)).toInt := i_addx (r4) ((1 : Int32)) (by have f0 := hs5.2.1; have f1 := i_rg r4; have f2 := hs5.2.1.2; have f3 : (1 : Int32).toInt = 1 := rfl; have f4 := p_a1; have f5 := i_rg a1; have f6 := hs2.2.1.2; have f7 := hs2.2.1; have f8 := i_rg r1; omega); have f1 := hs5.2.1; have f2 := i_rg r4; have f3 := hs5.2.1.2; have f4 : (1 : Int32).toInt = 1 := rfl; have f5 := p_a1; have f6 := i_rg a1; have f7 := hs2.2.1.2; have f8 := hs2.2.1; have f9 := i_rg r1; omega)) ?_
  exact ⟨js5, ⟨trivial, (gs_of p_a1 hs2.2.1.2 hs5.2.1.2 hs2.1 hs5.1 rfl rfl)⟩, fun _ => trivial, fun _ => trivial⟩
set_option maxRecDepth 20000 in
theorem h_X12_needOf (a1 : Int32) {s : Sg} (hR : Rg rM s) (p_a1 : 0 ≤ a1.toInt ∧ a1.toInt ≤ 7) : OQ (f_X12_needOf a1 s) (fun r9 s9 => JM 0 s s9 ∧ True ∧ (r9 = 0 → True) ∧ (¬ r9 = 0 → True)) := by
  have hJ : JM 0 s s := j_refl hR
  unfold f_X12_needOf
  refine oq_if (fun c1 => ?_) (fun c1 => ?_)
  · exact ⟨hJ, trivial, fun _ => trivial, fun w9 => absurd rfl w9⟩
  · refine oq_b (h_X12_quarrelRow _ hJ.1 (by have f0 := p_a1; have f1 := i_rg a1; have f2 := i_ne c1; have f3 := i_rg (s.1 0 24); omega)) (fun r1 s2 hs2 => ?_)
    have js2 : JM 0 s s2 := j_call hJ hs2.1 rfl
    refine oq_c (inr_of (by have f0 : ((r1) + ((2 : Int32))).toInt = (r1).toInt + ((2 : Int32)).toInt := i_addx (r1) ((2 : Int32)) (by have f0 := hs2.2.1; have f1 := i_rg r1; have f2 := hs2.2.1.2; have f3 : (2 : Int32).toInt = 2 := rfl; have f4 := p_a1; have f5 := i_rg a1; have f6 := i_ne c1; have f7 := i_rg (s.1 0 24); omega); have f1 := hs2.2.1; have f2 := i_rg r1; have f3 := hs2.2.1.2; have f4 : (2 : Int32).toInt = 2 := rfl; have f5 := p_a1; have f6 := i_rg a1; have f7 := i_ne c1; have f8 := i_rg (s.1 0 24); omega)) ?_
    exact ⟨js2, trivial, fun _ => trivial, fun _ => trivial⟩
set_option maxRecDepth 20000 in
theorem h_X12_hasAt_b27 {s0 : Sg} (n : Nat) : ∀ (v1 : Int32) (v2 : Int32) (v3 : Int32) (v4 : Int32) (s : Sg), JM 0 s0 s → 0 ≤ v1.toInt ∧ v1.toInt ≤ 7 → (-1) ≤ v2.toInt ∧ v2.toInt ≤ 7 → 0 ≤ v4.toInt ∧ v4.toInt ≤ 7 → 7 - v4.toInt < (n : Int) → OQ (f_X12_hasAt_b27 n v1 v2 v3 v4 s) (fun r9 s9 => JM 0 s0 s9 ∧ True ∧ (r9 = 0 → True) ∧ (¬ r9 = 0 → True)) := by
  induction n with
  | zero => intro v1 v2 v3 v4 s hJ p_v1 p_v2 p_v4 hn; exact False.elim (by have g0 := hn; have g1 := p_v1; have g2 := p_v2; have g3 := p_v4; have g4 := i_rg v1; have g5 := i_rg v2; have g6 := i_rg v3; have g7 := i_rg v4; omega)
  | succ n ih =>
    intro v1 v2 v3 v4 s hJ p_v1 p_v2 p_v4 hn
    unfold f_X12_hasAt_b27
    refine oq_if (fun c1 => ?_) (fun c1 => ?_)
    · refine oq_b (h_X12_needOf _ hJ.1 (by have f0 := p_v1; have f1 := i_rg v1; have f2 := i_le c1; have f3 := p_v4; have f4 := i_rg v4; omega)) (fun r6 s7 hs7 => ?_)
      have js7 : JM 0 s0 s7 := j_call hJ hs7.1 rfl
      exact ⟨js7, trivial, fun _ => trivial, fun _ => trivial⟩
    · refine oq_b (h_X12_isAt _ _ hJ.1 (by have f0 := p_v4; have f1 := i_rg v4; have f2 := i_nle c1; have f3 := p_v1; have f4 := i_rg v1; omega)) (fun r8 s9 hs9 => ?_)
      have js9 : JM 0 s0 s9 := j_call hJ hs9.1 rfl
      refine oq_if (fun c2 => ?_) (fun c2 => ?_)
      · exact ih _ _ _ _ _ js9 (by have f0 := p_v1; have f1 := i_rg v1; have f2 := i_nle c1; have f3 := p_v4; have f4 := i_rg v4; omega) (by have f0 := p_v2; have f1 := i_rg v2; omega) (by have f0 : ((v4) + ((1 : Int32))).toInt = (v4).toInt + ((1 : Int32)).toInt := i_addx (v4) ((1 : Int32)) (by have f0 := p_v4; have f1 := i_rg v4; have f2 : (1 : Int32).toInt = 1 := rfl; have f3 := i_nle c1; have f4 := p_v1; have f5 := i_rg v1; omega); have f1 := p_v4; have f2 := i_rg v4; have f3 : (1 : Int32).toInt = 1 := rfl; have f4 := i_nle c1; have f5 := p_v1; have f6 := i_rg v1; omega) (by have g0 : ((v3) - ((0 : Int32))).toInt = (v3).toInt - ((0 : Int32)).toInt := i_subx (v3) ((0 : Int32)) (by have f0 := i_rg v3; have f1 : (0 : Int32).toInt = 0 := rfl; omega); have g1 : ((v4) + ((1 : Int32))).toInt = (v4).toInt + ((1 : Int32)).toInt := i_addx (v4) ((1 : Int32)) (by have f0 := p_v4; have f1 := i_rg v4; have f2 : (1 : Int32).toInt = 1 := rfl; have f3 := i_nle c1; have f4 := p_v1; have f5 := i_rg v1; omega); have g2 := p_v1; have g3 := i_rg v1; have g4 := p_v2; have g5 := i_rg v2; have g6 := i_rg v3; have g7 : (0 : Int32).toInt = 0 := rfl; have g8 := p_v4; have g9 := i_rg v4; have g10 : (1 : Int32).toInt = 1 := rfl; have g11 := i_nle c1; have g12 := hn; omega)
      · refine oq_b (h_X12_needOf _ js9.1 (by have f0 := p_v4; have f1 := i_rg v4; have f2 := i_nle c1; have f3 := p_v1; have f4 := i_rg v1; omega)) (fun r10 s11 hs11 => ?_)
        have js11 : JM 0 s0 s11 := j_call js9 hs11.1 rfl
        refine oq_n (fun x12 ex12 => ?_)
        exact ih _ _ _ _ _ js11 (by have f0 := p_v1; have f1 := i_rg v1; have f2 := i_nle c1; have f3 := p_v4; have f4 := i_rg v4; omega) (by have f0 := p_v2; have f1 := i_rg v2; have f2 := (hs9.2.2.2 c2).1; have f3 := (hs9.2.2.2 c2).2; have f4 : ((-1) : Int32).toInt = (-1) := rfl; have f5 : (7 : Int32).toInt = 7 := rfl; omega) (by have f0 : ((v4) + ((1 : Int32))).toInt = (v4).toInt + ((1 : Int32)).toInt := i_addx (v4) ((1 : Int32)) (by have f0 := p_v4; have f1 := i_rg v4; have f2 : (1 : Int32).toInt = 1 := rfl; have f3 := i_nle c1; have f4 := p_v1; have f5 := i_rg v1; omega); have f1 := p_v4; have f2 := i_rg v4; have f3 : (1 : Int32).toInt = 1 := rfl; have f4 := i_nle c1; have f5 := p_v1; have f6 := i_rg v1; omega) (by have g0 : ((v4) + ((1 : Int32))).toInt = (v4).toInt + ((1 : Int32)).toInt := i_addx (v4) ((1 : Int32)) (by have f0 := p_v4; have f1 := i_rg v4; have f2 : (1 : Int32).toInt = 1 := rfl; have f3 := i_nle c1; have f4 := p_v1; have f5 := i_rg v1; omega); have g1 := p_v1; have g2 := i_rg v1; have g3 := p_v2; have g4 := i_rg v2; have g5 := i_eq ex12; have g6 := ite_lt (r10) (v3) (r10) (v3); have g7 := i_sub (v3) (if r10 < v3 then r10 else v3); have g8 := i_rg x12; have g9 := p_v4; have g10 := i_rg v4; have g11 : (1 : Int32).toInt = 1 := rfl; have g12 := i_rg v3; have g13 := i_rg r10; have g14 := i_nle c1; have g15 := (hs9.2.2.2 c2).1; have g16 := (hs9.2.2.2 c2).2; have g17 : ((-1) : Int32).toInt = (-1) := rfl; have g18 : (7 : Int32).toInt = 7 := rfl; have g19 := hn; omega)
set_option maxRecDepth 20000 in
theorem h_X12_hasAt (a1 : Int32) (a2 : Int32) {s : Sg} (hR : Rg rM s) (p_a1 : 0 ≤ a1.toInt ∧ a1.toInt ≤ 7) (p_a2 : (-1) ≤ a2.toInt ∧ a2.toInt ≤ 7) : OQ (f_X12_hasAt a1 a2 s) (fun r9 s9 => JM 0 s s9 ∧ True ∧ (r9 = 0 → True) ∧ (¬ r9 = 0 → True)) := by
  have hJ : JM 0 s s := j_refl hR
  unfold f_X12_hasAt
  refine oq_b (h_X12_houseRow _ hJ.1 (by have f0 := p_a2; have f1 := i_rg a2; omega)) (fun r1 s2 hs2 => ?_)
  have js2 : JM 0 s s2 := j_call hJ hs2.1 rfl
  refine oq_c (inr_of (by have f0 : ((r1) + ((2 : Int32))).toInt = (r1).toInt + ((2 : Int32)).toInt := i_addx (r1) ((2 : Int32)) (by have f0 := hs2.2.1; have f1 := i_rg r1; have f2 := hs2.2.1.2; have f3 : (2 : Int32).toInt = 2 := rfl; have f4 := p_a2; have f5 := i_rg a2; omega); have f1 := hs2.2.1; have f2 := i_rg r1; have f3 := hs2.2.1.2; have f4 : (2 : Int32).toInt = 2 := rfl; have f5 := p_a2; have f6 := i_rg a2; omega)) ?_
  refine oq_if (fun c1 => ?_) (fun c1 => ?_)
  · refine oq_b (h_X12_grainsOn _ js2.1 (by have f0 := p_a2; have f1 := i_rg a2; have f2 := hs2.2.1.2; have f3 := hs2.2.1; have f4 := i_rg r1; omega)) (fun r4 s5 hs5 => ?_)
    have js5 : JM 0 s s5 := j_call js2 hs5.1 rfl
    exact h_X12_hasAt_b27 BIG _ _ _ _ _ js5 (by have f0 := p_a1; have f1 := i_rg a1; omega) (by have f0 := p_a2; have f1 := i_rg a2; have f2 := hs2.2.1.2; have f3 := hs2.2.1; have f4 := i_rg r1; omega) (by have f0 : (0 : Int32).toInt = 0 := rfl; omega) (by have g0 := p_a1; have g1 := i_rg a1; have g2 := p_a2; have g3 := i_rg a2; have g4 := i_rg r4; have g5 : (0 : Int32).toInt = 0 := rfl; have g6 := hs2.2.1.2; have g7 := hs2.2.1; have g8 := i_rg r1; have g9 : BIG = 4294967296 := rfl; omega)
  · exact h_X12_hasAt_b27 BIG _ _ _ _ _ js2 (by have f0 := p_a1; have f1 := i_rg a1; omega) (by have f0 := p_a2; have f1 := i_rg a2; have f2 := hs2.2.1.2; have f3 := hs2.2.1; have f4 := i_rg r1; omega) (by have f0 : (0 : Int32).toInt = 0 := rfl; omega) (by have g0 := p_a1; have g1 := i_rg a1; have g2 := p_a2; have g3 := i_rg a2; have g4 : (0 : Int32).toInt = 0 := rfl; have g5 := hs2.2.1.2; have g6 := hs2.2.1; have g7 := i_rg r1; have g8 : BIG = 4294967296 := rfl; omega)
set_option maxRecDepth 20000 in
theorem h_X12_share (a1 : Int32) (a2 : Int32) {s : Sg} (hR : Rg rM s) : OQ (f_X12_share a1 a2 s) (fun r9 s9 => JM 4194304 s s9 ∧ True ∧ (r9 = 0 → 0 ≤ (a1).toInt ∧ (a1).toInt ≤ 7 ∧ 0 ≤ (a2).toInt ∧ (a2).toInt ≤ 1) ∧ (¬ r9 = 0 → True)) := by
  have hJ : JM 4194304 s s := j_refl hR
  unfold f_X12_share
  refine oq_b (h_X12_isQuarrel _ hJ.1) (fun r1 s2 hs2 => ?_)
  have js2 : JM 4194304 s s2 := j_call hJ hs2.1 rfl
  refine oq_if (fun c1 => ?_) (fun c1 => ?_)
  · refine oq_b (h_X12_refuse _ js2.1 (by have f0 : (1 : Int32).toInt = 1 := rfl; omega)) (fun r3 s4 hs4 => ?_)
    have js4 : JM 4194304 s s4 := j_call js2 hs4.1 rfl
    exact ⟨js4, trivial, fun w9 => False.elim (by have f0 := hs4.2.1; have f1 := i_rg r3; have f2 := hs2.2.1; have f3 := i_rg r1; have f4 := i_eq c1; have f5 := i_eq w9; have f6 : (0 : Int32).toInt = 0 := rfl; omega), fun _ => trivial⟩
  · refine oq_if (fun c2 => ?_) (fun c2 => ?_)
    · refine oq_b (h_X12_refuse _ js2.1 (by have f0 : (1 : Int32).toInt = 1 := rfl; omega)) (fun r5 s6 hs6 => ?_)
      have js6 : JM 4194304 s s6 := j_call js2 hs6.1 rfl
      exact ⟨js6, trivial, fun w9 => False.elim (by have f0 := hs6.2.1; have f1 := i_rg r5; have f2 := hs2.2.1; have f3 := i_rg r1; have f4 := i_rg a1; have f5 := i_rg a2; have f6 := i_ne c1; have f7 := (hs2.2.2.2 c1).1; have f8 := (hs2.2.2.2 c1).2; have f9 := i_lt c2; have f10 := i_eq w9; have f11 : (0 : Int32).toInt = 0 := rfl; have f12 : (7 : Int32).toInt = 7 := rfl; omega), fun _ => trivial⟩
    · refine oq_if (fun c3 => ?_) (fun c3 => ?_)
      · refine oq_b (h_X12_quarrelHouse _ _ js2.1 (by have f0 := i_rg a1; have f1 := (hs2.2.2.2 c1).1; have f2 := (hs2.2.2.2 c1).2; have f3 : (0 : Int32).toInt = 0 := rfl; have f4 : (7 : Int32).toInt = 7 := rfl; omega) (by have f0 := i_rg a2; have f1 := i_nlt c2; have f2 := i_le c3; have f3 : (0 : Int32).toInt = 0 := rfl; have f4 : (1 : Int32).toInt = 1 := rfl; omega)) (fun r7 s8 hs8 => ?_)
        have js8 : JM 4194304 s s8 := j_call js2 hs8.1 rfl
        refine oq_c (inr_of (by have f0 := hs8.2.1; have f1 := i_rg r7; have f2 := hs8.2.1.2; have f3 := i_rg a1; have f4 := i_rg a2; have f5 := (hs2.2.2.2 c1).1; have f6 := (hs2.2.2.2 c1).2; have f7 := i_nlt c2; have f8 := i_le c3; have f9 : (0 : Int32).toInt = 0 := rfl; have f10 : (7 : Int32).toInt = 7 := rfl; have f11 : (1 : Int32).toInt = 1 := rfl; omega)) ?_
        refine oq_b (h_X12_isGone _ js8.1 (by have f0 := rd_end js8 r7.toNatClampNeg (Or.inl (by have d0 := hs8.2.1; have d1 := i_rg r7; have d2 := hs8.2.1.2; have d3 := i_rg a1; have d4 := i_rg a2; have d5 := (hs2.2.2.2 c1).1; have d6 := (hs2.2.2.2 c1).2; have d7 := i_nlt c2; have d8 := i_le c3; have d9 : (0 : Int32).toInt = 0 := rfl; have d10 : (7 : Int32).toInt = 7 := rfl; have d11 : (1 : Int32).toInt = 1 := rfl; have d12 := cl_nat (r7); omega)); omega)) (fun r10 s11 hs11 => ?_)
        have js11 : JM 4194304 s s11 := j_call js8 hs11.1 rfl
        refine oq_if (fun c4 => ?_) (fun c4 => ?_)
        · refine oq_b (h_X12_hasAt _ _ js11.1 (by have f0 := i_rg a1; have f1 := hs8.2.1.2; have f2 := (hs2.2.2.2 c1).1; have f3 := (hs2.2.2.2 c1).2; have f4 := i_nlt c2; have f5 := i_le c3; have f6 := i_rg a2; have f7 := hs8.2.1; have f8 := i_rg r7; have f9 : (0 : Int32).toInt = 0 := rfl; have f10 : (7 : Int32).toInt = 7 := rfl; have f11 : (1 : Int32).toInt = 1 := rfl; omega) (by have f0 := rd_end js8 r7.toNatClampNeg (Or.inl (by have d0 := hs8.2.1; have d1 := i_rg r7; have d2 := hs8.2.1.2; have d3 := i_rg a1; have d4 := i_rg a2; have d5 := (hs2.2.2.2 c1).1; have d6 := (hs2.2.2.2 c1).2; have d7 := i_nlt c2; have d8 := i_le c3; have d9 : (0 : Int32).toInt = 0 := rfl; have d10 : (7 : Int32).toInt = 7 := rfl; have d11 : (1 : Int32).toInt = 1 := rfl; have d12 := cl_nat (r7); omega)); omega)) (fun r12 s13 hs13 => ?_)
          have js13 : JM 4194304 s s13 := j_call js11 hs13.1 rfl
          refine oq_b (h_X12_gives _ js13.1) (fun r14 s15 hs15 => ?_)
          have js15 : JM 4194304 s s15 := j_call js13 hs15.1 rfl
          exact ⟨js15, trivial, fun w9 => ⟨(by have f0 : (0 : Int32).toInt = 0 := rfl; have f1 := i_rg a1; have f2 := hs8.2.1.2; have f3 := (hs2.2.2.2 c1).1; have f4 := (hs2.2.2.2 c1).2; have f5 := i_nlt c2; have f6 := i_le c3; have f7 := i_rg a2; have f8 := hs8.2.1; have f9 := i_rg r7; have f10 : (7 : Int32).toInt = 7 := rfl; have f11 : (1 : Int32).toInt = 1 := rfl; omega), (by have f0 := i_rg a1; have f1 : (7 : Int32).toInt = 7 := rfl; have f2 := hs8.2.1.2; have f3 := (hs2.2.2.2 c1).1; have f4 := (hs2.2.2.2 c1).2; have f5 := i_nlt c2; have f6 := i_le c3; have f7 := i_rg a2; have f8 := hs8.2.1; have f9 := i_rg r7; have f10 : (0 : Int32).toInt = 0 := rfl; have f11 : (1 : Int32).toInt = 1 := rfl; omega), (by have f0 : (0 : Int32).toInt = 0 := rfl; have f1 := i_rg a2; have f2 := hs8.2.1.2; have f3 := (hs2.2.2.2 c1).1; have f4 := (hs2.2.2.2 c1).2; have f5 := i_nlt c2; have f6 := i_le c3; have f7 := i_rg a1; have f8 := hs8.2.1; have f9 := i_rg r7; have f10 : (7 : Int32).toInt = 7 := rfl; have f11 : (1 : Int32).toInt = 1 := rfl; omega), (by have f0 := i_rg a2; have f1 : (1 : Int32).toInt = 1 := rfl; have f2 := hs8.2.1.2; have f3 := (hs2.2.2.2 c1).1; have f4 := (hs2.2.2.2 c1).2; have f5 := i_nlt c2; have f6 := i_le c3; have f7 := i_rg a1; have f8 := hs8.2.1; have f9 := i_rg r7; have f10 : (0 : Int32).toInt = 0 := rfl; have f11 : (7 : Int32).toInt = 7 := rfl; omega)⟩, fun _ => trivial⟩
        · refine oq_b (h_X12_refuse _ js11.1 (by have f0 : (7 : Int32).toInt = 7 := rfl; omega)) (fun r16 s17 hs17 => ?_)
          have js17 : JM 4194304 s s17 := j_call js11 hs17.1 rfl
          exact ⟨js17, trivial, fun w9 => False.elim (by have f0 := hs17.2.1; have f1 := i_rg r16; have f2 := hs2.2.1; have f3 := i_rg r1; have f4 := i_rg a1; have f5 := i_rg a2; have f6 := hs11.2.1; have f7 := i_rg r10; have f8 := hs8.2.1.2; have f9 := i_ne c1; have f10 := (hs2.2.2.2 c1).1; have f11 := (hs2.2.2.2 c1).2; have f12 := i_nlt c2; have f13 := i_le c3; have f14 := i_ne c4; have f15 := i_eq w9; have f16 := hs8.2.1; have f17 := i_rg r7; have f18 : (0 : Int32).toInt = 0 := rfl; have f19 : (7 : Int32).toInt = 7 := rfl; have f20 : (1 : Int32).toInt = 1 := rfl; omega), fun _ => trivial⟩
      · refine oq_b (h_X12_refuse _ js2.1 (by have f0 : (1 : Int32).toInt = 1 := rfl; omega)) (fun r18 s19 hs19 => ?_)
        have js19 : JM 4194304 s s19 := j_call js2 hs19.1 rfl
        exact ⟨js19, trivial, fun w9 => False.elim (by have f0 := hs19.2.1; have f1 := i_rg r18; have f2 := hs2.2.1; have f3 := i_rg r1; have f4 := i_rg a1; have f5 := i_rg a2; have f6 := i_ne c1; have f7 := (hs2.2.2.2 c1).1; have f8 := (hs2.2.2.2 c1).2; have f9 := i_nlt c2; have f10 := i_nle c3; have f11 := i_eq w9; have f12 : (0 : Int32).toInt = 0 := rfl; have f13 : (7 : Int32).toInt = 7 := rfl; have f14 : (1 : Int32).toInt = 1 := rfl; omega), fun _ => trivial⟩
set_option maxRecDepth 20000 in
theorem h_X12_whose_b30 {s0 : Sg} (n : Nat) : ∀ (v1 : Int32) (v4 : Int32) (v5 : Int32) (s : Sg), JM 4194304 s0 s → 0 ≤ v1.toInt ∧ v1.toInt ≤ 7 → 0 ≤ v5.toInt ∧ v5.toInt ≤ 8 → 8 - v5.toInt < (n : Int) → OQ (f_X12_whose_b30 n v1 v4 v5 s) (fun r9 s9 => JM 4194304 s0 s9 ∧ True ∧ (r9 = 0 → True) ∧ (¬ r9 = 0 → True)) := by
  induction n with
  | zero => intro v1 v4 v5 s hJ p_v1 p_v5 hn; exact False.elim (by have g0 := hn; have g1 := p_v1; have g2 := p_v5; have g3 := i_rg v1; have g4 := i_rg v4; have g5 := i_rg v5; omega)
  | succ n ih =>
    intro v1 v4 v5 s hJ p_v1 p_v5 hn
    unfold f_X12_whose_b30
    refine oq_if (fun c1 => ?_) (fun c1 => ?_)
    · refine oq_b (h_X12_refuse _ hJ.1 (by have f0 : (6 : Int32).toInt = 6 := rfl; omega)) (fun r3 s4 hs4 => ?_)
      have js4 : JM 4194304 s0 s4 := j_call hJ hs4.1 rfl
      exact ⟨js4, trivial, fun w9 => False.elim (by have f0 := hs4.2.1; have f1 := i_rg r3; have f2 := j_rd hJ 1 1 0 8 rfl; have f3 := p_v5; have f4 := i_rg v5; have f5 := i_le c1; have f6 := i_eq w9; have f7 : (0 : Int32).toInt = 0 := rfl; omega), fun _ => trivial⟩
    · refine oq_b (h_X12_isAt _ _ hJ.1 (by have f0 := p_v5; have f1 := i_rg v5; have f2 := i_nle c1; have f3 := j_rd hJ 1 1 0 8 rfl; omega)) (fun r5 s6 hs6 => ?_)
      have js6 : JM 4194304 s0 s6 := j_call hJ hs6.1 rfl
      refine oq_if (fun c2 => ?_) (fun c2 => ?_)
      · exact ih _ _ _ _ js6 (by have f0 := p_v1; have f1 := i_rg v1; omega) (by have f0 : ((v5) + ((1 : Int32))).toInt = (v5).toInt + ((1 : Int32)).toInt := i_addx (v5) ((1 : Int32)) (by have f0 := p_v5; have f1 := i_rg v5; have f2 : (1 : Int32).toInt = 1 := rfl; have f3 := i_nle c1; have f4 := j_rd hJ 1 1 0 8 rfl; omega); have f1 := p_v5; have f2 := i_rg v5; have f3 : (1 : Int32).toInt = 1 := rfl; have f4 := i_nle c1; have f5 := j_rd hJ 1 1 0 8 rfl; omega) (by have g0 : ((v5) + ((1 : Int32))).toInt = (v5).toInt + ((1 : Int32)).toInt := i_addx (v5) ((1 : Int32)) (by have f0 := p_v5; have f1 := i_rg v5; have f2 : (1 : Int32).toInt = 1 := rfl; have f3 := i_nle c1; have f4 := j_rd hJ 1 1 0 8 rfl; omega); have g1 := p_v1; have g2 := i_rg v1; have g3 := i_rg v4; have g4 := p_v5; have g5 := i_rg v5; have g6 : (1 : Int32).toInt = 1 := rfl; have g7 := i_nle c1; have g8 := j_rd hJ 1 1 0 8 rfl; have g9 := hn; omega)
      · refine oq_b (h_X12_hasAt _ _ js6.1 (by have f0 := p_v5; have f1 := i_rg v5; have f2 := i_nle c1; have f3 := j_rd hJ 1 1 0 8 rfl; omega) (by have f0 := p_v1; have f1 := i_rg v1; have f2 := (hs6.2.2.2 c2).1; have f3 := (hs6.2.2.2 c2).2; have f4 : ((-1) : Int32).toInt = (-1) := rfl; have f5 : (7 : Int32).toInt = 7 := rfl; omega)) (fun r7 s8 hs8 => ?_)
        have js8 : JM 4194304 s0 s8 := j_call js6 hs8.1 rfl
        refine oq_if (fun c3 => ?_) (fun c3 => ?_)
        · refine oq_b (h_X12_hasAt _ _ js8.1 (by have f0 := p_v5; have f1 := i_rg v5; have f2 := i_nle c1; have f3 := j_rd hJ 1 1 0 8 rfl; omega) (by have f0 := p_v1; have f1 := i_rg v1; have f2 := (hs6.2.2.2 c2).1; have f3 := (hs6.2.2.2 c2).2; have f4 : ((-1) : Int32).toInt = (-1) := rfl; have f5 : (7 : Int32).toInt = 7 := rfl; omega)) (fun r9 s10 hs10 => ?_)
          have js10 : JM 4194304 s0 s10 := j_call js8 hs10.1 rfl
          exact ih _ _ _ _ js10 (by have f0 := p_v1; have f1 := i_rg v1; have f2 := (hs6.2.2.2 c2).1; have f3 := (hs6.2.2.2 c2).2; have f4 : ((-1) : Int32).toInt = (-1) := rfl; have f5 : (7 : Int32).toInt = 7 := rfl; omega) (by have f0 : ((v5) + ((1 : Int32))).toInt = (v5).toInt + ((1 : Int32)).toInt := i_addx (v5) ((1 : Int32)) (by have f0 := p_v5; have f1 := i_rg v5; have f2 : (1 : Int32).toInt = 1 := rfl; have f3 := i_nle c1; have f4 := j_rd hJ 1 1 0 8 rfl; omega); have f1 := p_v5; have f2 := i_rg v5; have f3 : (1 : Int32).toInt = 1 := rfl; have f4 := i_nle c1; have f5 := j_rd hJ 1 1 0 8 rfl; omega) (by have g0 := i_sub (v4) (r9); have g1 : ((v5) + ((1 : Int32))).toInt = (v5).toInt + ((1 : Int32)).toInt := i_addx (v5) ((1 : Int32)) (by have f0 := p_v5; have f1 := i_rg v5; have f2 : (1 : Int32).toInt = 1 := rfl; have f3 := i_nle c1; have f4 := j_rd hJ 1 1 0 8 rfl; omega); have g2 := p_v1; have g3 := i_rg v1; have g4 := i_rg v4; have g5 := i_rg r9; have g6 := p_v5; have g7 := i_rg v5; have g8 : (1 : Int32).toInt = 1 := rfl; have g9 := i_nle c1; have g10 := (hs6.2.2.2 c2).1; have g11 := (hs6.2.2.2 c2).2; have g12 := i_le c3; have g13 := j_rd hJ 1 1 0 8 rfl; have g14 : ((-1) : Int32).toInt = (-1) := rfl; have g15 : (7 : Int32).toInt = 7 := rfl; have g16 := i_rg r7; have g17 := hn; omega)
        · refine oq_b (h_X12_gives _ js8.1) (fun r11 s12 hs12 => ?_)
          have js12 : JM 4194304 s0 s12 := j_call js8 hs12.1 rfl
          exact ⟨js12, trivial, fun _ => trivial, fun _ => trivial⟩
set_option maxRecDepth 20000 in
theorem h_X12_whose_b13 {s0 : Sg} (v1 : Int32) (v2 : Int32) (t0 : Int32) (s : Sg) (hJ : JM 4194304 s0 s) (p_t0 : 0 ≤ t0.toInt ∧ t0.toInt ≤ 7) (x_1 : (t0.toInt = 1 ∨ (0 ≤ v1.toInt ∧ v1.toInt ≤ 7))) : OQ (f_X12_whose_b13 v1 v2 t0 s) (fun r9 s9 => JM 4194304 s0 s9 ∧ True ∧ (r9 = 0 → True) ∧ (¬ r9 = 0 → True)) := by
  unfold f_X12_whose_b13
  refine oq_if (fun c1 => ?_) (fun c1 => ?_)
  · exact h_X12_whose_b30 BIG _ _ _ _ hJ (by have f0 := i_rg v1; have f1 := x_1; have f2 := i_le c1; have f3 := p_t0; have f4 := i_rg t0; have f5 : (0 : Int32).toInt = 0 := rfl; omega) (by have f0 : (0 : Int32).toInt = 0 := rfl; omega) (by have g0 := i_rg v1; have g1 := i_rg v2; have g2 : (0 : Int32).toInt = 0 := rfl; have g3 := x_1; have g4 := i_le c1; have g5 := p_t0; have g6 := i_rg t0; have g7 : BIG = 4294967296 := rfl; omega)
  · refine oq_b (h_X12_refuse _ hJ.1 (by have f0 := p_t0; have f1 := i_rg t0; have f2 := x_1; have f3 := i_nle c1; have f4 := i_rg v1; have f5 : (0 : Int32).toInt = 0 := rfl; omega)) (fun r13 s14 hs14 => ?_)
    have js14 : JM 4194304 s0 s14 := j_call hJ hs14.1 rfl
    exact ⟨js14, trivial, fun w9 => False.elim (by have f0 := hs14.2.1; have f1 := i_rg r13; have f2 := p_t0; have f3 := i_rg t0; have f4 := x_1; have f5 := i_nle c1; have f6 := i_eq w9; have f7 := i_rg v1; have f8 : (0 : Int32).toInt = 0 := rfl; omega), fun _ => trivial⟩
set_option maxRecDepth 20000 in
theorem h_X12_whose (a1 : Int32) (a2 : Int32) {s : Sg} (hR : Rg rM s) : OQ (f_X12_whose a1 a2 s) (fun r9 s9 => JM 4194304 s s9 ∧ True ∧ (r9 = 0 → True) ∧ (¬ r9 = 0 → True)) := by
  have hJ : JM 4194304 s s := j_refl hR
  unfold f_X12_whose
  refine oq_if (fun c1 => ?_) (fun c1 => ?_)
  · refine oq_b (h_X12_wrongStep _ hJ.1) (fun r1 s2 hs2 => ?_)
    have js2 : JM 4194304 s s2 := j_call hJ hs2.1 rfl
    exact h_X12_whose_b13 _ _ _ _ js2 (by have f0 := hs2.2.1; have f1 := i_rg r1; have f2 := hs2.2.1.2; have f3 := i_rg a1; omega) (by have g0 := hs2.2.1; have g1 := i_rg r1; have g2 := hs2.2.1.2; have g3 := i_rg a1; omega)
  · exact h_X12_whose_b13 _ _ _ _ hJ (by have f0 : (1 : Int32).toInt = 1 := rfl; omega) (by have g0 : (1 : Int32).toInt = 1 := rfl; have g1 := i_rg a1; omega)
set_option maxRecDepth 20000 in
theorem h_X12_nobodys_b25 {s0 : Sg} (n : Nat) : ∀ (v1 : Int32) (v3 : Int32) (v4 : Int32) (s : Sg), JM 4194304 s0 s → 0 ≤ v1.toInt ∧ v1.toInt ≤ 7 → 0 ≤ v4.toInt ∧ v4.toInt ≤ 8 → 8 - v4.toInt < (n : Int) → OQ (f_X12_nobodys_b25 n v1 v3 v4 s) (fun r9 s9 => JM 4194304 s0 s9 ∧ True ∧ (r9 = 0 → True) ∧ (¬ r9 = 0 → True)) := by
  induction n with
  | zero => intro v1 v3 v4 s hJ p_v1 p_v4 hn; exact False.elim (by have g0 := hn; have g1 := p_v1; have g2 := p_v4; have g3 := i_rg v1; have g4 := i_rg v3; have g5 := i_rg v4; omega)
  | succ n ih =>
    intro v1 v3 v4 s hJ p_v1 p_v4 hn
    unfold f_X12_nobodys_b25
    refine oq_if (fun c1 => ?_) (fun c1 => ?_)
    · refine oq_b (h_X12_gives _ hJ.1) (fun r5 s6 hs6 => ?_)
      have js6 : JM 4194304 s0 s6 := j_call hJ hs6.1 rfl
      exact ⟨js6, trivial, fun _ => trivial, fun _ => trivial⟩
    · refine oq_b (h_X12_isAt _ _ hJ.1 (by have f0 := p_v4; have f1 := i_rg v4; have f2 := i_nle c1; have f3 := j_rd hJ 1 1 0 8 rfl; omega)) (fun r7 s8 hs8 => ?_)
      have js8 : JM 4194304 s0 s8 := j_call hJ hs8.1 rfl
      refine oq_if (fun c2 => ?_) (fun c2 => ?_)
      · exact ih _ _ _ _ js8 (by have f0 := p_v1; have f1 := i_rg v1; omega) (by have f0 : ((v4) + ((1 : Int32))).toInt = (v4).toInt + ((1 : Int32)).toInt := i_addx (v4) ((1 : Int32)) (by have f0 := p_v4; have f1 := i_rg v4; have f2 : (1 : Int32).toInt = 1 := rfl; have f3 := i_nle c1; have f4 := j_rd hJ 1 1 0 8 rfl; omega); have f1 := p_v4; have f2 := i_rg v4; have f3 : (1 : Int32).toInt = 1 := rfl; have f4 := i_nle c1; have f5 := j_rd hJ 1 1 0 8 rfl; omega) (by have g0 : ((v3) - ((0 : Int32))).toInt = (v3).toInt - ((0 : Int32)).toInt := i_subx (v3) ((0 : Int32)) (by have f0 := i_rg v3; have f1 : (0 : Int32).toInt = 0 := rfl; omega); have g1 : ((v4) + ((1 : Int32))).toInt = (v4).toInt + ((1 : Int32)).toInt := i_addx (v4) ((1 : Int32)) (by have f0 := p_v4; have f1 := i_rg v4; have f2 : (1 : Int32).toInt = 1 := rfl; have f3 := i_nle c1; have f4 := j_rd hJ 1 1 0 8 rfl; omega); have g2 := p_v1; have g3 := i_rg v1; have g4 := i_rg v3; have g5 : (0 : Int32).toInt = 0 := rfl; have g6 := p_v4; have g7 := i_rg v4; have g8 : (1 : Int32).toInt = 1 := rfl; have g9 := i_nle c1; have g10 := j_rd hJ 1 1 0 8 rfl; have g11 := hn; omega)
      · refine oq_b (h_X12_hasAt _ _ js8.1 (by have f0 := p_v4; have f1 := i_rg v4; have f2 := i_nle c1; have f3 := j_rd hJ 1 1 0 8 rfl; omega) (by have f0 := p_v1; have f1 := i_rg v1; have f2 := (hs8.2.2.2 c2).1; have f3 := (hs8.2.2.2 c2).2; have f4 : ((-1) : Int32).toInt = (-1) := rfl; have f5 : (7 : Int32).toInt = 7 := rfl; omega)) (fun r9 s10 hs10 => ?_)
        have js10 : JM 4194304 s0 s10 := j_call js8 hs10.1 rfl
        exact ih _ _ _ _ js10 (by have f0 := p_v1; have f1 := i_rg v1; have f2 := (hs8.2.2.2 c2).1; have f3 := (hs8.2.2.2 c2).2; have f4 : ((-1) : Int32).toInt = (-1) := rfl; have f5 : (7 : Int32).toInt = 7 := rfl; omega) (by have f0 : ((v4) + ((1 : Int32))).toInt = (v4).toInt + ((1 : Int32)).toInt := i_addx (v4) ((1 : Int32)) (by have f0 := p_v4; have f1 := i_rg v4; have f2 : (1 : Int32).toInt = 1 := rfl; have f3 := i_nle c1; have f4 := j_rd hJ 1 1 0 8 rfl; omega); have f1 := p_v4; have f2 := i_rg v4; have f3 : (1 : Int32).toInt = 1 := rfl; have f4 := i_nle c1; have f5 := j_rd hJ 1 1 0 8 rfl; omega) (by have g0 := i_sub (v3) (r9); have g1 : ((v4) + ((1 : Int32))).toInt = (v4).toInt + ((1 : Int32)).toInt := i_addx (v4) ((1 : Int32)) (by have f0 := p_v4; have f1 := i_rg v4; have f2 : (1 : Int32).toInt = 1 := rfl; have f3 := i_nle c1; have f4 := j_rd hJ 1 1 0 8 rfl; omega); have g2 := p_v1; have g3 := i_rg v1; have g4 := i_rg v3; have g5 := i_rg r9; have g6 := p_v4; have g7 := i_rg v4; have g8 : (1 : Int32).toInt = 1 := rfl; have g9 := i_nle c1; have g10 := (hs8.2.2.2 c2).1; have g11 := (hs8.2.2.2 c2).2; have g12 := j_rd hJ 1 1 0 8 rfl; have g13 : ((-1) : Int32).toInt = (-1) := rfl; have g14 : (7 : Int32).toInt = 7 := rfl; have g15 := hn; omega)
set_option maxRecDepth 20000 in
theorem h_X12_nobodys (a1 : Int32) {s : Sg} (hR : Rg rM s) : OQ (f_X12_nobodys a1 s) (fun r9 s9 => JM 4194304 s s9 ∧ True ∧ (r9 = 0 → True) ∧ (¬ r9 = 0 → True)) := by
  have hJ : JM 4194304 s s := j_refl hR
  unfold f_X12_nobodys
  refine oq_b (h_X12_wrongStep _ hJ.1) (fun r1 s2 hs2 => ?_)
  have js2 : JM 4194304 s s2 := j_call hJ hs2.1 rfl
  refine oq_if (fun c1 => ?_) (fun c1 => ?_)
  · refine oq_b (h_X12_grainsOn _ js2.1 (by have f0 := i_rg a1; have f1 := hs2.2.1.2; have f2 := i_le c1; have f3 := hs2.2.1; have f4 := i_rg r1; have f5 : (0 : Int32).toInt = 0 := rfl; omega)) (fun r3 s4 hs4 => ?_)
    have js4 : JM 4194304 s s4 := j_call js2 hs4.1 rfl
    exact h_X12_nobodys_b25 BIG _ _ _ _ js4 (by have f0 := i_rg a1; have f1 := hs2.2.1.2; have f2 := i_le c1; have f3 := hs2.2.1; have f4 := i_rg r1; have f5 : (0 : Int32).toInt = 0 := rfl; omega) (by have f0 : (0 : Int32).toInt = 0 := rfl; omega) (by have g0 := i_rg a1; have g1 := i_rg r3; have g2 : (0 : Int32).toInt = 0 := rfl; have g3 := hs2.2.1.2; have g4 := i_le c1; have g5 := hs2.2.1; have g6 := i_rg r1; have g7 : BIG = 4294967296 := rfl; omega)
  · refine oq_b (h_X12_refuse _ js2.1 (by have f0 := hs2.2.1; have f1 := i_rg r1; have f2 := hs2.2.1.2; have f3 := i_rg a1; have f4 := i_nle c1; have f5 : (0 : Int32).toInt = 0 := rfl; omega)) (fun r11 s12 hs12 => ?_)
    have js12 : JM 4194304 s s12 := j_call js2 hs12.1 rfl
    exact ⟨js12, trivial, fun w9 => False.elim (by have f0 := hs12.2.1; have f1 := i_rg r11; have f2 := hs2.2.1; have f3 := i_rg r1; have f4 := hs2.2.1.2; have f5 := i_rg a1; have f6 := i_nle c1; have f7 := i_eq w9; have f8 : (0 : Int32).toInt = 0 := rfl; omega), fun _ => trivial⟩
set_option maxRecDepth 20000 in
theorem h_X12_isFull (a1 : Int32) (a2 : Int32) {s : Sg} (hR : Rg rM s) (p_a1 : 0 ≤ a1.toInt ∧ a1.toInt ≤ 7) (p_a2 : 0 ≤ a2.toInt ∧ a2.toInt ≤ 1) : OQ (f_X12_isFull a1 a2 s) (fun r9 s9 => JM 0 s s9 ∧ (0 ≤ r9.toInt ∧ r9.toInt ≤ 1) ∧ (r9 = 0 → True) ∧ (¬ r9 = 0 → True)) := by
  have hJ : JM 0 s s := j_refl hR
  unfold f_X12_isFull
  refine oq_b (h_X12_quarrelHouse _ _ hJ.1 (by have f0 := p_a1; have f1 := i_rg a1; omega) (by have f0 := p_a2; have f1 := i_rg a2; omega)) (fun r1 s2 hs2 => ?_)
  have js2 : JM 0 s s2 := j_call hJ hs2.1 rfl
  refine oq_c (inr_of (by have f0 := hs2.2.1; have f1 := i_rg r1; have f2 := hs2.2.1.2; have f3 := p_a1; have f4 := i_rg a1; have f5 := p_a2; have f6 := i_rg a2; omega)) ?_
  refine oq_b (h_X12_isGone _ js2.1 (by have f0 := rd_end js2 r1.toNatClampNeg (Or.inl (by have d0 := hs2.2.1; have d1 := i_rg r1; have d2 := hs2.2.1.2; have d3 := p_a1; have d4 := i_rg a1; have d5 := p_a2; have d6 := i_rg a2; have d7 := cl_nat (r1); omega)); omega)) (fun r4 s5 hs5 => ?_)
  have js5 : JM 0 s s5 := j_call js2 hs5.1 rfl
  refine oq_if (fun c1 => ?_) (fun c1 => ?_)
  · refine oq_b (h_X12_hasAt _ _ js5.1 (by have f0 := p_a1; have f1 := i_rg a1; have f2 := hs2.2.1.2; have f3 := p_a2; have f4 := i_rg a2; have f5 := hs2.2.1; have f6 := i_rg r1; omega) (by have f0 := rd_end js2 r1.toNatClampNeg (Or.inl (by have d0 := hs2.2.1; have d1 := i_rg r1; have d2 := hs2.2.1.2; have d3 := p_a1; have d4 := i_rg a1; have d5 := p_a2; have d6 := i_rg a2; have d7 := cl_nat (r1); omega)); omega)) (fun r6 s7 hs7 => ?_)
    have js7 : JM 0 s s7 := j_call js5 hs7.1 rfl
    refine oq_b (h_X12_needOf _ js7.1 (by have f0 := p_a1; have f1 := i_rg a1; have f2 := hs2.2.1.2; have f3 := p_a2; have f4 := i_rg a2; have f5 := hs2.2.1; have f6 := i_rg r1; omega)) (fun r8 s9 hs9 => ?_)
    have js9 : JM 0 s s9 := j_call js7 hs9.1 rfl
    refine oq_if (fun c2 => ?_) (fun c2 => ?_)
    · exact ⟨js9, (by have f0 : (1 : Int32).toInt = 1 := rfl; omega), fun w9 => absurd w9 (by decide), fun _ => trivial⟩
    · exact ⟨js9, (by have f0 : (0 : Int32).toInt = 0 := rfl; omega), fun _ => trivial, fun w9 => absurd rfl w9⟩
  · refine oq_if (fun c3 => ?_) (fun c3 => ?_)
    · exact ⟨js5, (by have f0 : (1 : Int32).toInt = 1 := rfl; omega), fun w9 => absurd w9 (by decide), fun _ => trivial⟩
    · exact ⟨js5, (by have f0 : (0 : Int32).toInt = 0 := rfl; omega), fun _ => trivial, fun w9 => absurd rfl w9⟩
set_option maxRecDepth 20000 in
theorem h_X12_hasPeace (a1 : Int32) {s : Sg} (hR : Rg rM s) (p_a1 : 0 ≤ a1.toInt ∧ a1.toInt ≤ 7) : OQ (f_X12_hasPeace a1 s) (fun r9 s9 => JM 0 s s9 ∧ (0 ≤ r9.toInt ∧ r9.toInt ≤ 1) ∧ (r9 = 0 → True) ∧ (¬ r9 = 0 → True)) := by
  have hJ : JM 0 s s := j_refl hR
  unfold f_X12_hasPeace
  refine oq_b (h_X12_isFull _ _ hJ.1 (by have f0 := p_a1; have f1 := i_rg a1; omega) (by have f0 : (0 : Int32).toInt = 0 := rfl; omega)) (fun r1 s2 hs2 => ?_)
  have js2 : JM 0 s s2 := j_call hJ hs2.1 rfl
  refine oq_if (fun c1 => ?_) (fun c1 => ?_)
  · exact ⟨js2, (by have f0 : (0 : Int32).toInt = 0 := rfl; omega), fun _ => trivial, fun w9 => absurd rfl w9⟩
  · refine oq_b (h_X12_isFull _ _ js2.1 (by have f0 := p_a1; have f1 := i_rg a1; omega) (by have f0 : (1 : Int32).toInt = 1 := rfl; omega)) (fun r3 s4 hs4 => ?_)
    have js4 : JM 0 s s4 := j_call js2 hs4.1 rfl
    refine oq_if (fun c2 => ?_) (fun c2 => ?_)
    · exact ⟨js4, (by have f0 : (0 : Int32).toInt = 0 := rfl; omega), fun _ => trivial, fun w9 => absurd rfl w9⟩
    · exact ⟨js4, (by have f0 : (1 : Int32).toInt = 1 := rfl; omega), fun w9 => absurd w9 (by decide), fun _ => trivial⟩
set_option maxRecDepth 20000 in
theorem h_X12_isSome (a1 : Int32) (a2 : Int32) {s : Sg} (hR : Rg rM s) (p_a1 : 0 ≤ a1.toInt ∧ a1.toInt ≤ 7) (p_a2 : 0 ≤ a2.toInt ∧ a2.toInt ≤ 1) : OQ (f_X12_isSome a1 a2 s) (fun r9 s9 => JM 0 s s9 ∧ (0 ≤ r9.toInt ∧ r9.toInt ≤ 1) ∧ (r9 = 0 → True) ∧ (¬ r9 = 0 → True)) := by
  have hJ : JM 0 s s := j_refl hR
  unfold f_X12_isSome
  refine oq_b (h_X12_quarrelHouse _ _ hJ.1 (by have f0 := p_a1; have f1 := i_rg a1; omega) (by have f0 := p_a2; have f1 := i_rg a2; omega)) (fun r1 s2 hs2 => ?_)
  have js2 : JM 0 s s2 := j_call hJ hs2.1 rfl
  refine oq_c (inr_of (by have f0 := hs2.2.1; have f1 := i_rg r1; have f2 := hs2.2.1.2; have f3 := p_a1; have f4 := i_rg a1; have f5 := p_a2; have f6 := i_rg a2; omega)) ?_
  refine oq_b (h_X12_isGone _ js2.1 (by have f0 := rd_end js2 r1.toNatClampNeg (Or.inl (by have d0 := hs2.2.1; have d1 := i_rg r1; have d2 := hs2.2.1.2; have d3 := p_a1; have d4 := i_rg a1; have d5 := p_a2; have d6 := i_rg a2; have d7 := cl_nat (r1); omega)); omega)) (fun r4 s5 hs5 => ?_)
  have js5 : JM 0 s s5 := j_call js2 hs5.1 rfl
  refine oq_if (fun c1 => ?_) (fun c1 => ?_)
  · refine oq_b (h_X12_hasAt _ _ js5.1 (by have f0 := p_a1; have f1 := i_rg a1; have f2 := hs2.2.1.2; have f3 := p_a2; have f4 := i_rg a2; have f5 := hs2.2.1; have f6 := i_rg r1; omega) (by have f0 := rd_end js2 r1.toNatClampNeg (Or.inl (by have d0 := hs2.2.1; have d1 := i_rg r1; have d2 := hs2.2.1.2; have d3 := p_a1; have d4 := i_rg a1; have d5 := p_a2; have d6 := i_rg a2; have d7 := cl_nat (r1); omega)); omega)) (fun r6 s7 hs7 => ?_)
    have js7 : JM 0 s s7 := j_call js5 hs7.1 rfl
    refine oq_if (fun c2 => ?_) (fun c2 => ?_)
    · exact ⟨js7, (by have f0 : (0 : Int32).toInt = 0 := rfl; omega), fun _ => trivial, fun w9 => absurd rfl w9⟩
    · exact ⟨js7, (by have f0 : (1 : Int32).toInt = 1 := rfl; omega), fun w9 => absurd w9 (by decide), fun _ => trivial⟩
  · refine oq_if (fun c3 => ?_) (fun c3 => ?_)
    · exact ⟨js5, (by have f0 : (1 : Int32).toInt = 1 := rfl; omega), fun w9 => absurd w9 (by decide), fun _ => trivial⟩
    · exact ⟨js5, (by have f0 : (0 : Int32).toInt = 0 := rfl; omega), fun _ => trivial, fun w9 => absurd rfl w9⟩
set_option maxRecDepth 20000 in
theorem h_X12_neverCan (a1 : Int32) {s : Sg} (hR : Rg rM s) (p_a1 : 0 ≤ a1.toInt ∧ a1.toInt ≤ 7) : OQ (f_X12_neverCan a1 s) (fun r9 s9 => JM 0 s s9 ∧ (0 ≤ r9.toInt ∧ r9.toInt ≤ 1) ∧ (r9 = 0 → True) ∧ (¬ r9 = 0 → True)) := by
  have hJ : JM 0 s s := j_refl hR
  unfold f_X12_neverCan
  refine oq_if (fun c1 => ?_) (fun c1 => ?_)
  · refine oq_b (h_X12_quarrelHouse _ _ hJ.1 (by have f0 := p_a1; have f1 := i_rg a1; omega) (by have f0 : (0 : Int32).toInt = 0 := rfl; omega)) (fun r1 s2 hs2 => ?_)
    have js2 : JM 0 s s2 := j_call hJ hs2.1 rfl
    refine oq_c (inr_of (by have f0 := hs2.2.1; have f1 := i_rg r1; have f2 := hs2.2.1.2; have f3 := p_a1; have f4 := i_rg a1; have f5 : (0 : Int32).toInt = 0 := rfl; omega)) ?_
    refine oq_b (h_X12_isGone _ js2.1 (by have f0 := rd_end js2 r1.toNatClampNeg (Or.inl (by have d0 := hs2.2.1; have d1 := i_rg r1; have d2 := hs2.2.1.2; have d3 := p_a1; have d4 := i_rg a1; have d5 : (0 : Int32).toInt = 0 := rfl; have d6 := cl_nat (r1); omega)); omega)) (fun r4 s5 hs5 => ?_)
    have js5 : JM 0 s s5 := j_call js2 hs5.1 rfl
    refine oq_if (fun c2 => ?_) (fun c2 => ?_)
    · refine oq_b (h_X12_quarrelHouse _ _ js5.1 (by have f0 := p_a1; have f1 := i_rg a1; have f2 := hs2.2.1.2; have f3 : (0 : Int32).toInt = 0 := rfl; have f4 := hs2.2.1; have f5 := i_rg r1; omega) (by have f0 : (1 : Int32).toInt = 1 := rfl; omega)) (fun r6 s7 hs7 => ?_)
      have js7 : JM 0 s s7 := j_call js5 hs7.1 rfl
      refine oq_c (inr_of (by have f0 := hs7.2.1; have f1 := i_rg r6; have f2 := hs7.2.1.2; have f3 := p_a1; have f4 := i_rg a1; have f5 : (1 : Int32).toInt = 1 := rfl; have f6 := hs2.2.1.2; have f7 : (0 : Int32).toInt = 0 := rfl; have f8 := hs2.2.1; have f9 := i_rg r1; omega)) ?_
      refine oq_b (h_X12_isGone _ js7.1 (by have f0 := rd_end js7 r6.toNatClampNeg (Or.inl (by have d0 := hs7.2.1; have d1 := i_rg r6; have d2 := hs7.2.1.2; have d3 := p_a1; have d4 := i_rg a1; have d5 : (1 : Int32).toInt = 1 := rfl; have d6 := hs2.2.1.2; have d7 : (0 : Int32).toInt = 0 := rfl; have d8 := hs2.2.1; have d9 := i_rg r1; have d10 := cl_nat (r6); omega)); omega)) (fun r9 s10 hs10 => ?_)
      have js10 : JM 0 s s10 := j_call js7 hs10.1 rfl
      refine oq_if (fun c3 => ?_) (fun c3 => ?_)
      · exact ⟨js10, (by have f0 : (0 : Int32).toInt = 0 := rfl; have f1 := hs2.2.1.2; have f2 := hs7.2.1.2; have f3 := p_a1; have f4 := i_rg a1; have f5 := hs2.2.1; have f6 := i_rg r1; have f7 : (1 : Int32).toInt = 1 := rfl; have f8 := hs7.2.1; have f9 := i_rg r6; omega), fun _ => trivial, fun w9 => absurd rfl w9⟩
      · exact ⟨js10, (by have f0 : (1 : Int32).toInt = 1 := rfl; have f1 := hs7.2.1.2; have f2 := p_a1; have f3 := i_rg a1; have f4 := hs7.2.1; have f5 := i_rg r6; have f6 := hs2.2.1.2; have f7 : (0 : Int32).toInt = 0 := rfl; have f8 := hs2.2.1; have f9 := i_rg r1; omega), fun w9 => absurd w9 (by decide), fun _ => trivial⟩
    · exact ⟨js5, (by have f0 : (1 : Int32).toInt = 1 := rfl; omega), fun w9 => absurd w9 (by decide), fun _ => trivial⟩
  · exact ⟨hJ, (by have f0 : (0 : Int32).toInt = 0 := rfl; omega), fun _ => trivial, fun w9 => absurd rfl w9⟩
set_option maxRecDepth 20000 in
theorem h_X12_setOf_b90 {s0 : Sg} (k_4 : Int32 → Int32 → Int32 → Sg → Option (Int32 × Sg)) (m_4 : Nat) (hk_4 : ∀ (v1 : Int32) (v2 : Int32) (v3 : Int32) (s : Sg), JM 0 s0 s → 0 ≤ v1.toInt ∧ v1.toInt ≤ 3 → 0 ≤ v2.toInt ∧ v2.toInt ≤ 511 → 0 ≤ v3.toInt ∧ v3.toInt ≤ 8 → 8 - v3.toInt < (m_4 : Int) → OQ (k_4 v1 v2 v3 s) (fun r9 s9 => JM 0 s0 s9 ∧ (0 ≤ r9.toInt ∧ r9.toInt ≤ 511) ∧ (r9 = 0 → True) ∧ (¬ r9 = 0 → True))) (v1 : Int32) (v2 : Int32) (v3 : Int32) (t0 : Int32) (s : Sg) (hJ : JM 0 s0 s) (p_v1 : 0 ≤ v1.toInt ∧ v1.toInt ≤ 3) (p_v2 : 0 ≤ v2.toInt ∧ v2.toInt ≤ 511) (p_v3 : 0 ≤ v3.toInt ∧ v3.toInt ≤ 7) (p_t0 : 0 ≤ t0.toInt ∧ t0.toInt ≤ 1) (hm_4 : 8 - v3.toInt < (m_4 : Int) + 1) : OQ (f_X12_setOf_b90 k_4 v1 v2 v3 t0 s) (fun r9 s9 => JM 0 s0 s9 ∧ (0 ≤ r9.toInt ∧ r9.toInt ≤ 511) ∧ (r9 = 0 → True) ∧ (¬ r9 = 0 → True)) := by
  unfold f_X12_setOf_b90
  refine oq_if (fun c1 => ?_) (fun c1 => ?_)
  · exact hk_4 _ _ _ _ hJ (by have f0 := p_v1; have f1 := i_rg v1; omega) (by have f0 := i_or (v2) ((0 : Int32)) (by have f0 := p_v2; have f1 := i_rg v2; omega) (by have f0 : (0 : Int32).toInt = 0 := rfl; omega); have f1 := p_v2; have f2 := i_rg v2; have f3 : (0 : Int32).toInt = 0 := rfl; omega) (by have f0 : ((v3) + ((1 : Int32))).toInt = (v3).toInt + ((1 : Int32)).toInt := i_addx (v3) ((1 : Int32)) (by have f0 := p_v3; have f1 := i_rg v3; have f2 : (1 : Int32).toInt = 1 := rfl; omega); have f1 := p_v3; have f2 := i_rg v3; have f3 : (1 : Int32).toInt = 1 := rfl; omega) (by have g0 := i_or (v2) ((0 : Int32)) (by have f0 := p_v2; have f1 := i_rg v2; omega) (by have f0 : (0 : Int32).toInt = 0 := rfl; omega); have g1 : ((v3) + ((1 : Int32))).toInt = (v3).toInt + ((1 : Int32)).toInt := i_addx (v3) ((1 : Int32)) (by have f0 := p_v3; have f1 := i_rg v3; have f2 : (1 : Int32).toInt = 1 := rfl; omega); have g2 := p_v1; have g3 := i_rg v1; have g4 := p_v2; have g5 := i_rg v2; have g6 : (0 : Int32).toInt = 0 := rfl; have g7 := p_v3; have g8 := i_rg v3; have g9 : (1 : Int32).toInt = 1 := rfl; have g10 := hm_4; omega)
  · refine oq_n (fun x3 ex3 => ?_)
    exact hk_4 _ _ _ _ hJ (by have f0 := p_v1; have f1 := i_rg v1; omega) (by have f0 := i_eq ex3; have f1 := i_and (v3) ((31 : Int32)) (by decide); have f2 := i_sh (v3) (by have f0 := p_v3; have f1 := i_rg v3; omega); have f3 := i_or (v2) ((1 : Int32) <<< (v3 &&& 31)) (by have f0 := p_v2; have f1 := i_rg v2; omega) (by have f0 := i_and (v3) ((31 : Int32)) (by decide); have f1 := i_sh (v3) (by have f0 := p_v3; have f1 := i_rg v3; omega); have f2 : (1 : Int32).toInt = 1 := rfl; have f3 := p_v3; have f4 := i_rg v3; have f5 : (31 : Int32).toInt = 31 := rfl; omega); have f4 := i_rg x3; have f5 := p_v2; have f6 := i_rg v2; have f7 : (1 : Int32).toInt = 1 := rfl; have f8 := p_v3; have f9 := i_rg v3; have f10 : (31 : Int32).toInt = 31 := rfl; omega) (by have f0 : ((v3) + ((1 : Int32))).toInt = (v3).toInt + ((1 : Int32)).toInt := i_addx (v3) ((1 : Int32)) (by have f0 := p_v3; have f1 := i_rg v3; have f2 : (1 : Int32).toInt = 1 := rfl; omega); have f1 := p_v3; have f2 := i_rg v3; have f3 : (1 : Int32).toInt = 1 := rfl; omega) (by have g0 : ((v3) + ((1 : Int32))).toInt = (v3).toInt + ((1 : Int32)).toInt := i_addx (v3) ((1 : Int32)) (by have f0 := p_v3; have f1 := i_rg v3; have f2 : (1 : Int32).toInt = 1 := rfl; omega); have g1 := p_v1; have g2 := i_rg v1; have g3 := i_eq ex3; have g4 := i_and (v3) ((31 : Int32)) (by decide); have g5 := i_sh (v3) (by have f0 := p_v3; have f1 := i_rg v3; omega); have g6 := i_or (v2) ((1 : Int32) <<< (v3 &&& 31)) (by have f0 := p_v2; have f1 := i_rg v2; omega) (by have f0 := i_and (v3) ((31 : Int32)) (by decide); have f1 := i_sh (v3) (by have f0 := p_v3; have f1 := i_rg v3; omega); have f2 : (1 : Int32).toInt = 1 := rfl; have f3 := p_v3; have f4 := i_rg v3; have f5 : (31 : Int32).toInt = 31 := rfl; omega); have g7 := i_rg x3; have g8 := p_v3; have g9 := i_rg v3; have g10 : (1 : Int32).toInt = 1 := rfl; have g11 := p_v2; have g12 := i_rg v2; have g13 : (31 : Int32).toInt = 31 := rfl; have g14 := hm_4; omega)
set_option maxRecDepth 20000 in
theorem h_X12_setOf_b53 {s0 : Sg} (k_4 : Int32 → Int32 → Int32 → Sg → Option (Int32 × Sg)) (m_4 : Nat) (hk_4 : ∀ (v1 : Int32) (v2 : Int32) (v3 : Int32) (s : Sg), JM 0 s0 s → 0 ≤ v1.toInt ∧ v1.toInt ≤ 3 → 0 ≤ v2.toInt ∧ v2.toInt ≤ 511 → 0 ≤ v3.toInt ∧ v3.toInt ≤ 8 → 8 - v3.toInt < (m_4 : Int) → OQ (k_4 v1 v2 v3 s) (fun r9 s9 => JM 0 s0 s9 ∧ (0 ≤ r9.toInt ∧ r9.toInt ≤ 511) ∧ (r9 = 0 → True) ∧ (¬ r9 = 0 → True))) (v1 : Int32) (v2 : Int32) (v3 : Int32) (s : Sg) (hJ : JM 0 s0 s) (p_v1 : 1 ≤ v1.toInt ∧ v1.toInt ≤ 1) (p_v2 : 0 ≤ v2.toInt ∧ v2.toInt ≤ 511) (p_v3 : 0 ≤ v3.toInt ∧ v3.toInt ≤ 7) (hm_4 : 8 - v3.toInt < (m_4 : Int) + 1) : OQ (f_X12_setOf_b53 k_4 v1 v2 v3 s) (fun r9 s9 => JM 0 s0 s9 ∧ (0 ≤ r9.toInt ∧ r9.toInt ≤ 511) ∧ (r9 = 0 → True) ∧ (¬ r9 = 0 → True)) := by
  unfold f_X12_setOf_b53
  exact h_X12_setOf_b90 _ m_4 hk_4 _ _ _ _ _ hJ (by have f0 := p_v1; have f1 := i_rg v1; omega) (by have f0 := p_v2; have f1 := i_rg v2; omega) (by have f0 := p_v3; have f1 := i_rg v3; omega) (by have f0 : (0 : Int32).toInt = 0 := rfl; omega) (by have g0 := p_v1; have g1 := i_rg v1; have g2 := p_v2; have g3 := i_rg v2; have g4 := p_v3; have g5 := i_rg v3; have g6 : (0 : Int32).toInt = 0 := rfl; have g7 := hm_4; omega)
set_option maxRecDepth 20000 in
theorem h_X12_setOf_b4 {s0 : Sg} (n : Nat) : ∀ (v1 : Int32) (v2 : Int32) (v3 : Int32) (s : Sg), JM 0 s0 s → 0 ≤ v1.toInt ∧ v1.toInt ≤ 3 → 0 ≤ v2.toInt ∧ v2.toInt ≤ 511 → 0 ≤ v3.toInt ∧ v3.toInt ≤ 8 → 8 - v3.toInt < (n : Int) → OQ (f_X12_setOf_b4 n v1 v2 v3 s) (fun r9 s9 => JM 0 s0 s9 ∧ (0 ≤ r9.toInt ∧ r9.toInt ≤ 511) ∧ (r9 = 0 → True) ∧ (¬ r9 = 0 → True)) := by
  induction n with
  | zero => intro v1 v2 v3 s hJ p_v1 p_v2 p_v3 hn; exact False.elim (by have g0 := hn; have g1 := p_v1; have g2 := p_v2; have g3 := p_v3; have g4 := i_rg v1; have g5 := i_rg v2; have g6 := i_rg v3; omega)
  | succ n ih =>
    intro v1 v2 v3 s hJ p_v1 p_v2 p_v3 hn
    unfold f_X12_setOf_b4
    refine oq_if (fun c1 => ?_) (fun c1 => ?_)
    · exact ⟨hJ, (by have f0 := p_v2; have f1 := i_rg v2; omega), fun _ => trivial, fun _ => trivial⟩
    · refine oq_if (fun c2 => ?_) (fun c2 => ?_)
      · refine oq_b (h_X12_hasPeace _ hJ.1 (by have f0 := p_v3; have f1 := i_rg v3; have f2 := i_nle c1; have f3 := j_rd hJ 1 1 0 8 rfl; omega)) (fun r1 s2 hs2 => ?_)
        have js2 : JM 0 s0 s2 := j_call hJ hs2.1 rfl
        exact h_X12_setOf_b90 _ n ih _ _ _ _ _ js2 (by have f0 := p_v1; have f1 := i_rg v1; have f2 := i_eq c2; have f3 : (0 : Int32).toInt = 0 := rfl; omega) (by have f0 := p_v2; have f1 := i_rg v2; omega) (by have f0 := p_v3; have f1 := i_rg v3; have f2 := i_nle c1; have f3 := j_rd hJ 1 1 0 8 rfl; omega) (by have f0 := hs2.2.1; have f1 := i_rg r1; omega) (by have g0 := p_v1; have g1 := i_rg v1; have g2 := p_v2; have g3 := i_rg v2; have g4 := p_v3; have g5 := i_rg v3; have g6 := hs2.2.1; have g7 := i_rg r1; have g8 := i_nle c1; have g9 := i_eq c2; have g10 := j_rd hJ 1 1 0 8 rfl; have g11 : (0 : Int32).toInt = 0 := rfl; have g12 := hn; omega)
      · refine oq_if (fun c3 => ?_) (fun c3 => ?_)
        · refine oq_b (h_X12_isSome _ _ hJ.1 (by have f0 := p_v3; have f1 := i_rg v3; have f2 := i_nle c1; have f3 := j_rd hJ 1 1 0 8 rfl; omega) (by have f0 : (0 : Int32).toInt = 0 := rfl; omega)) (fun r4 s5 hs5 => ?_)
          have js5 : JM 0 s0 s5 := j_call hJ hs5.1 rfl
          refine oq_if (fun c4 => ?_) (fun c4 => ?_)
          · exact h_X12_setOf_b53 _ n ih _ _ _ _ js5 (by have f0 := p_v1; have f1 := i_rg v1; have f2 := i_ne c2; have f3 := i_eq c3; have f4 : (0 : Int32).toInt = 0 := rfl; have f5 : (1 : Int32).toInt = 1 := rfl; omega) (by have f0 := p_v2; have f1 := i_rg v2; omega) (by have f0 := p_v3; have f1 := i_rg v3; have f2 := i_nle c1; have f3 := j_rd hJ 1 1 0 8 rfl; omega) (by have g0 := p_v1; have g1 := i_rg v1; have g2 := p_v2; have g3 := i_rg v2; have g4 := p_v3; have g5 := i_rg v3; have g6 := i_nle c1; have g7 := i_ne c2; have g8 := i_eq c3; have g9 := j_rd hJ 1 1 0 8 rfl; have g10 : (0 : Int32).toInt = 0 := rfl; have g11 : (1 : Int32).toInt = 1 := rfl; have g12 := hn; omega)
          · refine oq_b (h_X12_isSome _ _ js5.1 (by have f0 := p_v3; have f1 := i_rg v3; have f2 := i_nle c1; have f3 := j_rd hJ 1 1 0 8 rfl; omega) (by have f0 : (1 : Int32).toInt = 1 := rfl; omega)) (fun r6 s7 hs7 => ?_)
            have js7 : JM 0 s0 s7 := j_call js5 hs7.1 rfl
            refine oq_if (fun c5 => ?_) (fun c5 => ?_)
            · exact h_X12_setOf_b53 _ n ih _ _ _ _ js7 (by have f0 := p_v1; have f1 := i_rg v1; have f2 := i_ne c2; have f3 := i_eq c3; have f4 : (0 : Int32).toInt = 0 := rfl; have f5 : (1 : Int32).toInt = 1 := rfl; omega) (by have f0 := p_v2; have f1 := i_rg v2; omega) (by have f0 := p_v3; have f1 := i_rg v3; have f2 := i_nle c1; have f3 := j_rd hJ 1 1 0 8 rfl; omega) (by have g0 := p_v1; have g1 := i_rg v1; have g2 := p_v2; have g3 := i_rg v2; have g4 := p_v3; have g5 := i_rg v3; have g6 := i_nle c1; have g7 := i_ne c2; have g8 := i_eq c3; have g9 := j_rd hJ 1 1 0 8 rfl; have g10 : (0 : Int32).toInt = 0 := rfl; have g11 : (1 : Int32).toInt = 1 := rfl; have g12 := hn; omega)
            · exact h_X12_setOf_b90 _ n ih _ _ _ _ _ js7 (by have f0 := p_v1; have f1 := i_rg v1; have f2 := i_ne c2; have f3 := i_eq c3; have f4 : (0 : Int32).toInt = 0 := rfl; have f5 : (1 : Int32).toInt = 1 := rfl; omega) (by have f0 := p_v2; have f1 := i_rg v2; omega) (by have f0 := p_v3; have f1 := i_rg v3; have f2 := i_nle c1; have f3 := j_rd hJ 1 1 0 8 rfl; omega) (by have f0 : (1 : Int32).toInt = 1 := rfl; omega) (by have g0 := p_v1; have g1 := i_rg v1; have g2 := p_v2; have g3 := i_rg v2; have g4 := p_v3; have g5 := i_rg v3; have g6 : (1 : Int32).toInt = 1 := rfl; have g7 := i_nle c1; have g8 := i_ne c2; have g9 := i_eq c3; have g10 := j_rd hJ 1 1 0 8 rfl; have g11 : (0 : Int32).toInt = 0 := rfl; have g12 := hn; omega)
        · refine oq_if (fun c6 => ?_) (fun c6 => ?_)
          · refine oq_b (h_X12_quarrelRow _ hJ.1 (by have f0 := p_v3; have f1 := i_rg v3; have f2 := i_nle c1; have f3 := j_rd hJ 1 1 0 8 rfl; omega)) (fun r8 s9 hs9 => ?_)
            have js9 : JM 0 s0 s9 := j_call hJ hs9.1 rfl
            refine oq_c (inr_of (by have f0 : ((r8) + ((3 : Int32))).toInt = (r8).toInt + ((3 : Int32)).toInt := i_addx (r8) ((3 : Int32)) (by have f0 := hs9.2.1; have f1 := i_rg r8; have f2 := hs9.2.1.2; have f3 : (3 : Int32).toInt = 3 := rfl; have f4 := p_v3; have f5 := i_rg v3; have f6 := i_nle c1; have f7 := j_rd hJ 1 1 0 8 rfl; omega); have f1 := hs9.2.1; have f2 := i_rg r8; have f3 := hs9.2.1.2; have f4 : (3 : Int32).toInt = 3 := rfl; have f5 := p_v3; have f6 := i_rg v3; have f7 := i_nle c1; have f8 := j_rd hJ 1 1 0 8 rfl; omega)) ?_
            refine oq_if (fun c7 => ?_) (fun c7 => ?_)
            · exact h_X12_setOf_b90 _ n ih _ _ _ _ _ js9 (by have f0 := p_v1; have f1 := i_rg v1; have f2 := i_ne c2; have f3 := i_ne c3; have f4 := i_eq c6; have f5 : (0 : Int32).toInt = 0 := rfl; have f6 : (1 : Int32).toInt = 1 := rfl; have f7 : (2 : Int32).toInt = 2 := rfl; omega) (by have f0 := p_v2; have f1 := i_rg v2; omega) (by have f0 := p_v3; have f1 := i_rg v3; have f2 := hs9.2.1.2; have f3 := i_nle c1; have f4 := hs9.2.1; have f5 := i_rg r8; have f6 := j_rd hJ 1 1 0 8 rfl; omega) (by have f0 : (1 : Int32).toInt = 1 := rfl; omega) (by have g0 := p_v1; have g1 := i_rg v1; have g2 := p_v2; have g3 := i_rg v2; have g4 := p_v3; have g5 := i_rg v3; have g6 : (1 : Int32).toInt = 1 := rfl; have g7 := hs9.2.1.2; have g8 := i_nle c1; have g9 := i_ne c2; have g10 := i_ne c3; have g11 := i_eq c6; have g12 := hs9.2.1; have g13 := i_rg r8; have g14 := j_rd hJ 1 1 0 8 rfl; have g15 : (0 : Int32).toInt = 0 := rfl; have g16 : (2 : Int32).toInt = 2 := rfl; have g17 := hn; omega)
            · exact h_X12_setOf_b90 _ n ih _ _ _ _ _ js9 (by have f0 := p_v1; have f1 := i_rg v1; have f2 := i_ne c2; have f3 := i_ne c3; have f4 := i_eq c6; have f5 : (0 : Int32).toInt = 0 := rfl; have f6 : (1 : Int32).toInt = 1 := rfl; have f7 : (2 : Int32).toInt = 2 := rfl; omega) (by have f0 := p_v2; have f1 := i_rg v2; omega) (by have f0 := p_v3; have f1 := i_rg v3; have f2 := hs9.2.1.2; have f3 := i_nle c1; have f4 := hs9.2.1; have f5 := i_rg r8; have f6 := j_rd hJ 1 1 0 8 rfl; omega) (by have f0 : (0 : Int32).toInt = 0 := rfl; omega) (by have g0 := p_v1; have g1 := i_rg v1; have g2 := p_v2; have g3 := i_rg v2; have g4 := p_v3; have g5 := i_rg v3; have g6 : (0 : Int32).toInt = 0 := rfl; have g7 := hs9.2.1.2; have g8 := i_nle c1; have g9 := i_ne c2; have g10 := i_ne c3; have g11 := i_eq c6; have g12 := hs9.2.1; have g13 := i_rg r8; have g14 := j_rd hJ 1 1 0 8 rfl; have g15 : (1 : Int32).toInt = 1 := rfl; have g16 : (2 : Int32).toInt = 2 := rfl; have g17 := hn; omega)
          · refine oq_b (h_X12_neverCan _ hJ.1 (by have f0 := p_v3; have f1 := i_rg v3; have f2 := i_nle c1; have f3 := j_rd hJ 1 1 0 8 rfl; omega)) (fun r11 s12 hs12 => ?_)
            have js12 : JM 0 s0 s12 := j_call hJ hs12.1 rfl
            exact h_X12_setOf_b90 _ n ih _ _ _ _ _ js12 (by have f0 := p_v1; have f1 := i_rg v1; have f2 := i_ne c2; have f3 := i_ne c3; have f4 := i_ne c6; have f5 : (0 : Int32).toInt = 0 := rfl; have f6 : (1 : Int32).toInt = 1 := rfl; have f7 : (2 : Int32).toInt = 2 := rfl; omega) (by have f0 := p_v2; have f1 := i_rg v2; omega) (by have f0 := p_v3; have f1 := i_rg v3; have f2 := i_nle c1; have f3 := j_rd hJ 1 1 0 8 rfl; omega) (by have f0 := hs12.2.1; have f1 := i_rg r11; omega) (by have g0 := p_v1; have g1 := i_rg v1; have g2 := p_v2; have g3 := i_rg v2; have g4 := p_v3; have g5 := i_rg v3; have g6 := hs12.2.1; have g7 := i_rg r11; have g8 := i_nle c1; have g9 := i_ne c2; have g10 := i_ne c3; have g11 := i_ne c6; have g12 := j_rd hJ 1 1 0 8 rfl; have g13 : (0 : Int32).toInt = 0 := rfl; have g14 : (1 : Int32).toInt = 1 := rfl; have g15 : (2 : Int32).toInt = 2 := rfl; have g16 := hn; omega)
set_option maxRecDepth 20000 in
theorem h_X12_setOf (a1 : Int32) {s : Sg} (hR : Rg rM s) (p_a1 : 0 ≤ a1.toInt ∧ a1.toInt ≤ 3) : OQ (f_X12_setOf a1 s) (fun r9 s9 => JM 0 s s9 ∧ (0 ≤ r9.toInt ∧ r9.toInt ≤ 511) ∧ (r9 = 0 → True) ∧ (¬ r9 = 0 → True)) := by
  have hJ : JM 0 s s := j_refl hR
  unfold f_X12_setOf
  exact h_X12_setOf_b4 BIG _ _ _ _ hJ (by have f0 := p_a1; have f1 := i_rg a1; omega) (by have f0 : (0 : Int32).toInt = 0 := rfl; omega) (by have f0 : (0 : Int32).toInt = 0 := rfl; omega) (by have g0 := p_a1; have g1 := i_rg a1; have g2 : (0 : Int32).toInt = 0 := rfl; have g3 : BIG = 4294967296 := rfl; omega)
set_option maxRecDepth 20000 in
theorem h_X12_peace  {s : Sg} (hR : Rg rM s) : OQ (f_X12_peace  s) (fun r9 s9 => JM 4194304 s s9 ∧ True ∧ (r9 = 0 → True) ∧ (¬ r9 = 0 → True)) := by
  have hJ : JM 4194304 s s := j_refl hR
  unfold f_X12_peace
  refine oq_b (h_X12_setOf _ hJ.1 (by have f0 : (0 : Int32).toInt = 0 := rfl; omega)) (fun r1 s2 hs2 => ?_)
  have js2 : JM 4194304 s s2 := j_call hJ hs2.1 rfl
  refine oq_b (h_X12_gives _ js2.1) (fun r3 s4 hs4 => ?_)
  have js4 : JM 4194304 s s4 := j_call js2 hs4.1 rfl
  exact ⟨js4, trivial, fun _ => trivial, fun _ => trivial⟩
set_option maxRecDepth 20000 in
theorem h_X12_truce  {s : Sg} (hR : Rg rM s) : OQ (f_X12_truce  s) (fun r9 s9 => JM 4194304 s s9 ∧ True ∧ (r9 = 0 → True) ∧ (¬ r9 = 0 → True)) := by
  have hJ : JM 4194304 s s := j_refl hR
  unfold f_X12_truce
  refine oq_b (h_X12_setOf _ hJ.1 (by have f0 : (1 : Int32).toInt = 1 := rfl; omega)) (fun r1 s2 hs2 => ?_)
  have js2 : JM 4194304 s s2 := j_call hJ hs2.1 rfl
  refine oq_b (h_X12_gives _ js2.1) (fun r3 s4 hs4 => ?_)
  have js4 : JM 4194304 s s4 := j_call js2 hs4.1 rfl
  exact ⟨js4, trivial, fun _ => trivial, fun _ => trivial⟩
set_option maxRecDepth 20000 in
theorem h_X12_over  {s : Sg} (hR : Rg rM s) : OQ (f_X12_over  s) (fun r9 s9 => JM 4194304 s s9 ∧ True ∧ (r9 = 0 → True) ∧ (¬ r9 = 0 → True)) := by
  have hJ : JM 4194304 s s := j_refl hR
  unfold f_X12_over
  refine oq_b (h_X12_setOf _ hJ.1 (by have f0 : (2 : Int32).toInt = 2 := rfl; omega)) (fun r1 s2 hs2 => ?_)
  have js2 : JM 4194304 s s2 := j_call hJ hs2.1 rfl
  refine oq_b (h_X12_gives _ js2.1) (fun r3 s4 hs4 => ?_)
  have js4 : JM 4194304 s s4 := j_call js2 hs4.1 rfl
  exact ⟨js4, trivial, fun _ => trivial, fun _ => trivial⟩
set_option maxRecDepth 20000 in
theorem h_X12_hopeless  {s : Sg} (hR : Rg rM s) : OQ (f_X12_hopeless  s) (fun r9 s9 => JM 4194304 s s9 ∧ True ∧ (r9 = 0 → True) ∧ (¬ r9 = 0 → True)) := by
  have hJ : JM 4194304 s s := j_refl hR
  unfold f_X12_hopeless
  refine oq_b (h_X12_setOf _ hJ.1 (by have f0 : (3 : Int32).toInt = 3 := rfl; omega)) (fun r1 s2 hs2 => ?_)
  have js2 : JM 4194304 s s2 := j_call hJ hs2.1 rfl
  refine oq_b (h_X12_gives _ js2.1) (fun r3 s4 hs4 => ?_)
  have js4 : JM 4194304 s s4 := j_call js2 hs4.1 rfl
  exact ⟨js4, trivial, fun _ => trivial, fun _ => trivial⟩
set_option maxRecDepth 20000 in
theorem h_X12_isFrom (a0 : Int64) (a1 : Int64) (a2 : Int64) {s : Sg} (hR : Rg rM s) : OQ (f_X12_isFrom a0 a1 a2 s) (fun r9 s9 => JM 0 s s9 ∧ ((0 ≤ r9.toInt ∧ r9.toInt ≤ 1) ∧ (r9.toInt = 0 ∨ (a1.toInt ≤ a0.toInt ∧ a0.toInt ≤ a2.toInt))) ∧ (r9 = 0 → True) ∧ (¬ r9 = 0 → True)) := by
  unfold f_X12_isFrom
  refine oq_if (fun c => ?_) (fun c => oq_if (fun c2 => ?_) (fun c2 => ?_))
  · exact ⟨j_refl hR, ⟨⟨by decide, by decide⟩, Or.inl rfl⟩, fun _ => trivial, fun _ => trivial⟩
  · exact ⟨j_refl hR, ⟨⟨by decide, by decide⟩, Or.inl rfl⟩, fun _ => trivial, fun _ => trivial⟩
  · exact ⟨j_refl hR, ⟨⟨by decide, by decide⟩, Or.inr ⟨lg_nlt c, lg_ngt c2⟩⟩, fun _ => trivial, fun _ => trivial⟩
set_option maxRecDepth 20000 in
theorem h_X12_hasRoom (a1 : Int32) (a2 : Int32) {s : Sg} (hR : Rg rM s) (p_a1 : (-1) ≤ a1.toInt ∧ a1.toInt ≤ 7) : OQ (f_X12_hasRoom a1 a2 s) (fun r9 s9 => JM 0 s s9 ∧ (0 ≤ r9.toInt ∧ r9.toInt ≤ 1) ∧ (r9 = 0 → True) ∧ (¬ r9 = 0 → True)) := by
  have hJ : JM 0 s s := j_refl hR
  unfold f_X12_hasRoom
  refine oq_b (h_X12_grainsOn _ hJ.1 (by have f0 := p_a1; have f1 := i_rg a1; omega)) (fun r1 s2 hs2 => ?_)
  have js2 : JM 0 s s2 := j_call hJ hs2.1 rfl
  refine oq_if (fun c1 => ?_) (fun c1 => ?_)
  · exact ⟨js2, (by have f0 : (0 : Int32).toInt = 0 := rfl; omega), fun _ => trivial, fun w9 => absurd rfl w9⟩
  · exact ⟨js2, (by have f0 : (1 : Int32).toInt = 1 := rfl; omega), fun w9 => absurd w9 (by decide), fun _ => trivial⟩
set_option maxRecDepth 20000 in
theorem h_X12_strews (a1 : Int32) (a2 : Int32) {s : Sg} (hR : Rg rM s) (p_a1 : (-1) ≤ a1.toInt ∧ a1.toInt ≤ 7) : OQ (f_X12_strews a1 a2 s) (fun _ s9 => JM 36893488147419103234 s s9 ∧ True) := by
  have hJ : JM 36893488147419103234 s s := j_refl hR
  unfold f_X12_strews
  refine oq_b (h_X12_houseRow _ hJ.1 (by have f0 := p_a1; have f1 := i_rg a1; omega)) (fun r1 s2 hs2 => ?_)
  have js2 : JM 36893488147419103234 s s2 := j_call hJ hs2.1 rfl
  refine oq_c (inr_of (by have f0 := hs2.2.1; have f1 := i_rg r1; have f2 := hs2.2.1.2; have f3 := p_a1; have f4 := i_rg a1; omega)) ?_
  refine oq_n (fun s4 es4 => ?_)
  have js4 : JM 36893488147419103234 s s4 := by rw [es4]; exact (j_wm js2 (rz_f (Or.inr (Or.inl (by have d0 := hs2.2.1; have d1 := i_rg r1; have d2 := hs2.2.1.2; have d3 := p_a1; have d4 := i_rg a1; have d5 := cl_nat (r1); omega))) ((s2.1 1 r1.toNatClampNeg) + a2)) (mk_1 (by have d0 := hs2.2.1; have d1 := i_rg r1; have d2 := hs2.2.1.2; have d3 := p_a1; have d4 := i_rg a1; have d5 := cl_nat (r1); omega) rfl))
  exact ⟨(j_wf js4 rfl 65 rfl rfl), trivial⟩
set_option maxRecDepth 20000 in
theorem h_X12_strew_b21 {s0 : Sg} (v1 : Int32) (v2 : Int32) (t0 : Int32) (s : Sg) (hJ : JM 36893488147423297538 s0 s) (p_t0 : 0 ≤ t0.toInt ∧ t0.toInt ≤ 7) (x_1 : (t0.toInt = 1 ∨ (0 ≤ v1.toInt ∧ v1.toInt ≤ 7))) : OQ (f_X12_strew_b21 v1 v2 t0 s) (fun r9 s9 => JM 36893488147423297538 s0 s9 ∧ True ∧ (r9 = 0 → True) ∧ (¬ r9 = 0 → True)) := by
  unfold f_X12_strew_b21
  refine oq_if (fun c1 => ?_) (fun c1 => ?_)
  · refine oq_b (h_X12_refuse _ hJ.1 (by have f0 : (1 : Int32).toInt = 1 := rfl; omega)) (fun r3 s4 hs4 => ?_)
    have js4 : JM 36893488147423297538 s0 s4 := j_call hJ hs4.1 rfl
    exact ⟨js4, trivial, fun w9 => False.elim (by have f0 := hs4.2.1; have f1 := i_rg r3; have f2 := p_t0; have f3 := i_rg t0; have f4 := x_1; have f5 := i_eq c1; have f6 := i_eq w9; have f7 := i_rg v1; have f8 : (1 : Int32).toInt = 1 := rfl; have f9 : (0 : Int32).toInt = 0 := rfl; omega), fun _ => trivial⟩
  · refine oq_b (h_X12_hasRoom _ _ hJ.1 (by have f0 := i_rg v1; have f1 := x_1; have f2 := i_ne c1; have f3 := p_t0; have f4 := i_rg t0; have f5 : (1 : Int32).toInt = 1 := rfl; omega)) (fun r5 s6 hs6 => ?_)
    have js6 : JM 36893488147423297538 s0 s6 := j_call hJ hs6.1 rfl
    refine oq_if (fun c2 => ?_) (fun c2 => ?_)
    · refine oq_b (h_X12_refuse _ js6.1 (by have f0 : (4 : Int32).toInt = 4 := rfl; omega)) (fun r7 s8 hs8 => ?_)
      have js8 : JM 36893488147423297538 s0 s8 := j_call js6 hs8.1 rfl
      exact ⟨js8, trivial, fun w9 => False.elim (by have f0 := hs8.2.1; have f1 := i_rg r7; have f2 := p_t0; have f3 := i_rg t0; have f4 := hs6.2.1; have f5 := i_rg r5; have f6 := x_1; have f7 := i_ne c1; have f8 := i_eq c2; have f9 := i_eq w9; have f10 := i_rg v1; have f11 : (1 : Int32).toInt = 1 := rfl; have f12 : (0 : Int32).toInt = 0 := rfl; omega), fun _ => trivial⟩
    · refine oq_if (fun c3 => ?_) (fun c3 => ?_)
      · refine oq_b (h_X12_refuse _ js6.1 (by have f0 : (7 : Int32).toInt = 7 := rfl; omega)) (fun r9 s10 hs10 => ?_)
        have js10 : JM 36893488147423297538 s0 s10 := j_call js6 hs10.1 rfl
        exact ⟨js10, trivial, fun w9 => False.elim (by have f0 := hs10.2.1; have f1 := i_rg r9; have f2 := p_t0; have f3 := i_rg t0; have f4 := hs6.2.1; have f5 := i_rg r5; have f6 := x_1; have f7 := i_ne c1; have f8 := i_ne c2; have f9 := i_eq c3; have f10 := i_eq w9; have f11 := i_rg v1; have f12 : (1 : Int32).toInt = 1 := rfl; have f13 : (0 : Int32).toInt = 0 := rfl; have f14 : (7 : Int32).toInt = 7 := rfl; omega), fun _ => trivial⟩
      · refine oq_b (h_X12_strews _ _ js6.1 (by have f0 := i_rg v1; have f1 := x_1; have f2 := i_ne c1; have f3 := i_ne c3; have f4 := p_t0; have f5 := i_rg t0; have f6 : (1 : Int32).toInt = 1 := rfl; have f7 : (7 : Int32).toInt = 7 := rfl; omega)) (fun u4 s12 hs12 => ?_)
        have js12 : JM 36893488147423297538 s0 s12 := j_call js6 hs12.1 rfl
        refine oq_b (h_X12_houseRow _ js12.1 (by have f0 := i_rg v1; have f1 := x_1; have f2 := i_ne c1; have f3 := i_ne c3; have f4 := p_t0; have f5 := i_rg t0; have f6 : (1 : Int32).toInt = 1 := rfl; have f7 : (7 : Int32).toInt = 7 := rfl; omega)) (fun r13 s14 hs14 => ?_)
        have js14 : JM 36893488147423297538 s0 s14 := j_call js12 hs14.1 rfl
        refine oq_c (inr_of (by have f0 := hs14.2.1; have f1 := i_rg r13; have f2 := hs14.2.1.2; have f3 := i_rg v1; have f4 := x_1; have f5 := i_ne c1; have f6 := i_ne c3; have f7 := p_t0; have f8 := i_rg t0; have f9 : (1 : Int32).toInt = 1 := rfl; have f10 : (7 : Int32).toInt = 7 := rfl; omega)) ?_
        refine oq_b (h_X12_gives _ js14.1) (fun r16 s17 hs17 => ?_)
        have js17 : JM 36893488147423297538 s0 s17 := j_call js14 hs17.1 rfl
        exact ⟨js17, trivial, fun _ => trivial, fun _ => trivial⟩
set_option maxRecDepth 20000 in
theorem h_X12_strew (a1 : Int32) (a2 : Int32) {s : Sg} (hR : Rg rM s) : OQ (f_X12_strew a1 a2 s) (fun r9 s9 => JM 36893488147423297538 s s9 ∧ True ∧ (r9 = 0 → True) ∧ (¬ r9 = 0 → True)) := by
  have hJ : JM 36893488147423297538 s s := j_refl hR
  unfold f_X12_strew
  refine oq_b (h_X12_isFrom _ _ _ hJ.1) (fun r1 s2 hs2 => ?_)
  have js2 : JM 36893488147423297538 s s2 := j_call hJ hs2.1 rfl
  refine oq_if (fun c1 => ?_) (fun c1 => ?_)
  · exact h_X12_strew_b21 _ _ _ _ js2 (by have f0 : (1 : Int32).toInt = 1 := rfl; omega) (by have g0 : (1 : Int32).toInt = 1 := rfl; have g1 := i_rg a1; omega)
  · refine oq_b (h_X12_wrongStep _ js2.1) (fun r18 s19 hs19 => ?_)
    have js19 : JM 36893488147423297538 s s19 := j_call js2 hs19.1 rfl
    exact h_X12_strew_b21 _ _ _ _ js19 (by have f0 := hs19.2.1; have f1 := i_rg r18; have f2 := hs19.2.1.2; have f3 := i_rg a1; omega) (by have g0 := hs19.2.1; have g1 := i_rg r18; have g2 := hs19.2.1.2; have g3 := i_rg a1; omega)
set_option maxRecDepth 20000 in
theorem h_X12_buys (a1 : Int32) (a2 : Int32) (a3 : Int32) {s : Sg} (hR : Rg rM s) (p_a1 : 0 ≤ a1.toInt ∧ a1.toInt ≤ 3) (p_a3 : (-1) ≤ a3.toInt ∧ a3.toInt ≤ 7) : OQ (f_X12_buys a1 a2 a3 s) (fun r9 s9 => JM 4759259971017064316930 s s9 ∧ True ∧ (r9 = 0 → True) ∧ (¬ r9 = 0 → True)) := by
  have hJ : JM 4759259971017064316930 s s := j_refl hR
  unfold f_X12_buys
  refine oq_c (inr_of (by have f0 : (((3 : Int32)) * (a1)).toInt = (3) * (a1).toInt := i_mulx ((3 : Int32)) (a1) (show -2147483648 ≤ (3) * (a1).toInt ∧ (3) * (a1).toInt ≤ 2147483647 from (by have f0 := p_a1; have f1 := i_rg a1; omega)); have f1 : (((92 : Int32)) + (3 * a1)).toInt = ((92 : Int32)).toInt + (3 * a1).toInt := i_addx ((92 : Int32)) (3 * a1) (by have f0 : (((3 : Int32)) * (a1)).toInt = (3) * (a1).toInt := i_mulx ((3 : Int32)) (a1) (show -2147483648 ≤ (3) * (a1).toInt ∧ (3) * (a1).toInt ≤ 2147483647 from (by have f0 := p_a1; have f1 := i_rg a1; omega)); have f1 : (92 : Int32).toInt = 92 := rfl; have f2 : (3 : Int32).toInt = 3 := rfl; have f3 := p_a1; have f4 := i_rg a1; omega); have f2 : ((92 + (3 * a1)) + ((2 : Int32))).toInt = (92 + (3 * a1)).toInt + ((2 : Int32)).toInt := i_addx (92 + (3 * a1)) ((2 : Int32)) (by have f0 : (((3 : Int32)) * (a1)).toInt = (3) * (a1).toInt := i_mulx ((3 : Int32)) (a1) (show -2147483648 ≤ (3) * (a1).toInt ∧ (3) * (a1).toInt ≤ 2147483647 from (by have f0 := p_a1; have f1 := i_rg a1; omega)); have f1 : (((92 : Int32)) + (3 * a1)).toInt = ((92 : Int32)).toInt + (3 * a1).toInt := i_addx ((92 : Int32)) (3 * a1) (by have f0 : (((3 : Int32)) * (a1)).toInt = (3) * (a1).toInt := i_mulx ((3 : Int32)) (a1) (show -2147483648 ≤ (3) * (a1).toInt ∧ (3) * (a1).toInt ≤ 2147483647 from (by have f0 := p_a1; have f1 := i_rg a1; omega)); have f1 : (92 : Int32).toInt = 92 := rfl; have f2 : (3 : Int32).toInt = 3 := rfl; have f3 := p_a1; have f4 := i_rg a1; omega); have f2 : (92 : Int32).toInt = 92 := rfl; have f3 : (3 : Int32).toInt = 3 := rfl; have f4 := p_a1; have f5 := i_rg a1; have f6 : (2 : Int32).toInt = 2 := rfl; omega); have f3 : (92 : Int32).toInt = 92 := rfl; have f4 : (3 : Int32).toInt = 3 := rfl; have f5 := p_a1; have f6 := i_rg a1; have f7 : (2 : Int32).toInt = 2 := rfl; omega)) ?_
  refine oq_n (fun x2 ex2 => ?_)
  refine oq_c (inr_of (by have f0 : (((3 : Int32)) * (a1)).toInt = (3) * (a1).toInt := i_mulx ((3 : Int32)) (a1) (show -2147483648 ≤ (3) * (a1).toInt ∧ (3) * (a1).toInt ≤ 2147483647 from (by have f0 := p_a1; have f1 := i_rg a1; omega)); have f1 : (((92 : Int32)) + (3 * a1)).toInt = ((92 : Int32)).toInt + (3 * a1).toInt := i_addx ((92 : Int32)) (3 * a1) (by have f0 : (((3 : Int32)) * (a1)).toInt = (3) * (a1).toInt := i_mulx ((3 : Int32)) (a1) (show -2147483648 ≤ (3) * (a1).toInt ∧ (3) * (a1).toInt ≤ 2147483647 from (by have f0 := p_a1; have f1 := i_rg a1; omega)); have f1 : (92 : Int32).toInt = 92 := rfl; have f2 : (3 : Int32).toInt = 3 := rfl; have f3 := p_a1; have f4 := i_rg a1; omega); have f2 : (92 : Int32).toInt = 92 := rfl; have f3 : (3 : Int32).toInt = 3 := rfl; have f4 := p_a1; have f5 := i_rg a1; omega)) ?_
  refine oq_n (fun s4 es4 => ?_)
  have js4 : JM 4759259971017064316930 s s4 := by rw [es4]; exact (j_wm hJ (rz_f (Or.inr (Or.inr (Or.inr (Or.inr (Or.inl (by have d0 : (((3 : Int32)) * (a1)).toInt = (3) * (a1).toInt := i_mulx ((3 : Int32)) (a1) (show -2147483648 ≤ (3) * (a1).toInt ∧ (3) * (a1).toInt ≤ 2147483647 from (by have f0 := p_a1; have f1 := i_rg a1; omega)); have d1 : (((92 : Int32)) + (3 * a1)).toInt = ((92 : Int32)).toInt + (3 * a1).toInt := i_addx ((92 : Int32)) (3 * a1) (by have f0 : (((3 : Int32)) * (a1)).toInt = (3) * (a1).toInt := i_mulx ((3 : Int32)) (a1) (show -2147483648 ≤ (3) * (a1).toInt ∧ (3) * (a1).toInt ≤ 2147483647 from (by have f0 := p_a1; have f1 := i_rg a1; omega)); have f1 : (92 : Int32).toInt = 92 := rfl; have f2 : (3 : Int32).toInt = 3 := rfl; have f3 := p_a1; have f4 := i_rg a1; omega); have d2 : (92 : Int32).toInt = 92 := rfl; have d3 : (3 : Int32).toInt = 3 := rfl; have d4 := p_a1; have d5 := i_rg a1; have d6 := cl_nat (92 + (3 * a1)); omega)))))) ((s.1 1 ((92 + (3 * a1)).toNatClampNeg)) - a2)) (mk_1 (by have d0 : (((3 : Int32)) * (a1)).toInt = (3) * (a1).toInt := i_mulx ((3 : Int32)) (a1) (show -2147483648 ≤ (3) * (a1).toInt ∧ (3) * (a1).toInt ≤ 2147483647 from (by have f0 := p_a1; have f1 := i_rg a1; omega)); have d1 : (((92 : Int32)) + (3 * a1)).toInt = ((92 : Int32)).toInt + (3 * a1).toInt := i_addx ((92 : Int32)) (3 * a1) (by have f0 : (((3 : Int32)) * (a1)).toInt = (3) * (a1).toInt := i_mulx ((3 : Int32)) (a1) (show -2147483648 ≤ (3) * (a1).toInt ∧ (3) * (a1).toInt ≤ 2147483647 from (by have f0 := p_a1; have f1 := i_rg a1; omega)); have f1 : (92 : Int32).toInt = 92 := rfl; have f2 : (3 : Int32).toInt = 3 := rfl; have f3 := p_a1; have f4 := i_rg a1; omega); have d2 : (92 : Int32).toInt = 92 := rfl; have d3 : (3 : Int32).toInt = 3 := rfl; have d4 := p_a1; have d5 := i_rg a1; have d6 := cl_nat (92 + (3 * a1)); omega) rfl))
  refine oq_c (inr_of (by have f0 : (((3 : Int32)) * (a1)).toInt = (3) * (a1).toInt := i_mulx ((3 : Int32)) (a1) (show -2147483648 ≤ (3) * (a1).toInt ∧ (3) * (a1).toInt ≤ 2147483647 from (by have f0 := p_a1; have f1 := i_rg a1; omega)); have f1 : (((92 : Int32)) + (3 * a1)).toInt = ((92 : Int32)).toInt + (3 * a1).toInt := i_addx ((92 : Int32)) (3 * a1) (by have f0 : (((3 : Int32)) * (a1)).toInt = (3) * (a1).toInt := i_mulx ((3 : Int32)) (a1) (show -2147483648 ≤ (3) * (a1).toInt ∧ (3) * (a1).toInt ≤ 2147483647 from (by have f0 := p_a1; have f1 := i_rg a1; omega)); have f1 : (92 : Int32).toInt = 92 := rfl; have f2 : (3 : Int32).toInt = 3 := rfl; have f3 := p_a1; have f4 := i_rg a1; omega); have f2 : ((92 + (3 * a1)) + ((1 : Int32))).toInt = (92 + (3 * a1)).toInt + ((1 : Int32)).toInt := i_addx (92 + (3 * a1)) ((1 : Int32)) (by have f0 : (((3 : Int32)) * (a1)).toInt = (3) * (a1).toInt := i_mulx ((3 : Int32)) (a1) (show -2147483648 ≤ (3) * (a1).toInt ∧ (3) * (a1).toInt ≤ 2147483647 from (by have f0 := p_a1; have f1 := i_rg a1; omega)); have f1 : (((92 : Int32)) + (3 * a1)).toInt = ((92 : Int32)).toInt + (3 * a1).toInt := i_addx ((92 : Int32)) (3 * a1) (by have f0 : (((3 : Int32)) * (a1)).toInt = (3) * (a1).toInt := i_mulx ((3 : Int32)) (a1) (show -2147483648 ≤ (3) * (a1).toInt ∧ (3) * (a1).toInt ≤ 2147483647 from (by have f0 := p_a1; have f1 := i_rg a1; omega)); have f1 : (92 : Int32).toInt = 92 := rfl; have f2 : (3 : Int32).toInt = 3 := rfl; have f3 := p_a1; have f4 := i_rg a1; omega); have f2 : (92 : Int32).toInt = 92 := rfl; have f3 : (3 : Int32).toInt = 3 := rfl; have f4 := p_a1; have f5 := i_rg a1; have f6 : (1 : Int32).toInt = 1 := rfl; omega); have f3 : (92 : Int32).toInt = 92 := rfl; have f4 : (3 : Int32).toInt = 3 := rfl; have f5 := p_a1; have f6 := i_rg a1; have f7 : (1 : Int32).toInt = 1 := rfl; omega)) ?_
  refine oq_n (fun s6 es6 => ?_)
  have js6 : JM 4759259971017064316930 s s6 := by rw [es6]; exact (j_wf js4 rfl 72 rfl rfl)
  refine oq_b (h_X12_strews _ _ js6.1 (by have f0 := p_a3; have f1 := i_rg a3; omega)) (fun u1 s8 hs8 => ?_)
  have js8 : JM 4759259971017064316930 s s8 := j_call js6 hs8.1 rfl
  refine oq_b (h_X12_houseRow _ js8.1 (by have f0 := p_a3; have f1 := i_rg a3; omega)) (fun r9 s10 hs10 => ?_)
  have js10 : JM 4759259971017064316930 s s10 := j_call js8 hs10.1 rfl
  refine oq_c (inr_of (by have f0 : ((r9) + ((1 : Int32))).toInt = (r9).toInt + ((1 : Int32)).toInt := i_addx (r9) ((1 : Int32)) (by have f0 := hs10.2.1; have f1 := i_rg r9; have f2 := hs10.2.1.2; have f3 : (1 : Int32).toInt = 1 := rfl; have f4 := p_a3; have f5 := i_rg a3; omega); have f1 := hs10.2.1; have f2 := i_rg r9; have f3 := hs10.2.1.2; have f4 : (1 : Int32).toInt = 1 := rfl; have f5 := p_a3; have f6 := i_rg a3; omega)) ?_
  refine oq_n (fun s12 es12 => ?_)
  have js12 : JM 4759259971017064316930 s s12 := by rw [es12]; exact (j_wm js10 (rz_f (Or.inr (Or.inl (by have d0 : ((r9) + ((1 : Int32))).toInt = (r9).toInt + ((1 : Int32)).toInt := i_addx (r9) ((1 : Int32)) (by have f0 := hs10.2.1; have f1 := i_rg r9; have f2 := hs10.2.1.2; have f3 : (1 : Int32).toInt = 1 := rfl; have f4 := p_a3; have f5 := i_rg a3; omega); have d1 := hs10.2.1; have d2 := i_rg r9; have d3 := hs10.2.1.2; have d4 : (1 : Int32).toInt = 1 := rfl; have d5 := p_a3; have d6 := i_rg a3; have d7 := cl_nat (r9 + 1); omega))) ((s10.1 1 ((r9 + 1).toNatClampNeg)) + x2)) (mk_1 (by have d0 : ((r9) + ((1 : Int32))).toInt = (r9).toInt + ((1 : Int32)).toInt := i_addx (r9) ((1 : Int32)) (by have f0 := hs10.2.1; have f1 := i_rg r9; have f2 := hs10.2.1.2; have f3 : (1 : Int32).toInt = 1 := rfl; have f4 := p_a3; have f5 := i_rg a3; omega); have d1 := hs10.2.1; have d2 := i_rg r9; have d3 := hs10.2.1.2; have d4 : (1 : Int32).toInt = 1 := rfl; have d5 := p_a3; have d6 := i_rg a3; have d7 := cl_nat (r9 + 1); omega) rfl))
  exact ⟨(j_wf js12 rfl 65 rfl rfl), trivial, fun _ => trivial, fun _ => trivial⟩
set_option maxRecDepth 20000 in
theorem h_X12_buy (a1 : Int32) (a2 : Int32) (a3 : Int32) {s : Sg} (hR : Rg rM s) : OQ (f_X12_buy a1 a2 a3 s) (fun r9 s9 => JM 4759259971017068511234 s s9 ∧ True ∧ (r9 = 0 → 0 ≤ (a1).toInt ∧ (a1).toInt ≤ 3 ∧ 0 ≤ (a3).toInt ∧ (a3).toInt ≤ 7) ∧ (¬ r9 = 0 → True)) := by
  have hJ : JM 4759259971017068511234 s s := j_refl hR
  unfold f_X12_buy
  refine oq_if (fun c1 => ?_) (fun c1 => ?_)
  · refine oq_b (h_X12_refuse _ hJ.1 (by have f0 : (1 : Int32).toInt = 1 := rfl; omega)) (fun r1 s2 hs2 => ?_)
    have js2 : JM 4759259971017068511234 s s2 := j_call hJ hs2.1 rfl
    exact ⟨js2, trivial, fun w9 => False.elim (by have f0 := hs2.2.1; have f1 := i_rg r1; have f2 := i_rg a1; have f3 := i_lt c1; have f4 := i_eq w9; have f5 : (0 : Int32).toInt = 0 := rfl; omega), fun _ => trivial⟩
  · refine oq_if (fun c2 => ?_) (fun c2 => ?_)
    · refine oq_b (h_X12_refuse _ hJ.1 (by have f0 : (1 : Int32).toInt = 1 := rfl; omega)) (fun r3 s4 hs4 => ?_)
      have js4 : JM 4759259971017068511234 s s4 := j_call hJ hs4.1 rfl
      exact ⟨js4, trivial, fun w9 => False.elim (by have f0 := hs4.2.1; have f1 := i_rg r3; have f2 := i_rg a1; have f3 := j_rd hJ 1 3 0 4 rfl; have f4 := i_nlt c1; have f5 := i_le c2; have f6 := i_eq w9; have f7 : (0 : Int32).toInt = 0 := rfl; omega), fun _ => trivial⟩
    · refine oq_b (h_X12_isFrom _ _ _ hJ.1) (fun r5 s6 hs6 => ?_)
      have js6 : JM 4759259971017068511234 s s6 := j_call hJ hs6.1 rfl
      refine oq_if (fun c3 => ?_) (fun c3 => ?_)
      · refine oq_b (h_X12_refuse _ js6.1 (by have f0 : (1 : Int32).toInt = 1 := rfl; omega)) (fun r7 s8 hs8 => ?_)
        have js8 : JM 4759259971017068511234 s s8 := j_call js6 hs8.1 rfl
        exact ⟨js8, trivial, fun w9 => False.elim (by have f0 := hs8.2.1; have f1 := i_rg r7; have f2 := i_rg a1; have f3 := j_rd hJ 1 3 0 4 rfl; have f4 := hs6.2.1; have f5 := i_rg r5; have f6 := hs6.2.1.2; have f7 := l_32 (a2); have f8 : (1 : Int64).toInt = 1 := rfl; have f9 : (999 : Int64).toInt = 999 := rfl; have f10 := i_rg a2; have f11 := l_32 a2; have f12 := i_nlt c1; have f13 := i_nle c2; have f14 := i_eq c3; have f15 := i_eq w9; have f16 : (0 : Int32).toInt = 0 := rfl; omega), fun _ => trivial⟩
      · refine oq_b (h_X12_isHouse _ js6.1) (fun r9 s10 hs10 => ?_)
        have js10 : JM 4759259971017068511234 s s10 := j_call js6 hs10.1 rfl
        refine oq_if (fun c4 => ?_) (fun c4 => ?_)
        · refine oq_b (h_X12_refuse _ js10.1 (by have f0 : (1 : Int32).toInt = 1 := rfl; omega)) (fun r11 s12 hs12 => ?_)
          have js12 : JM 4759259971017068511234 s s12 := j_call js10 hs12.1 rfl
          exact ⟨js12, trivial, fun w9 => False.elim (by have f0 := hs12.2.1; have f1 := i_rg r11; have f2 := i_rg a1; have f3 := j_rd hJ 1 3 0 4 rfl; have f4 := hs6.2.1; have f5 := i_rg r5; have f6 := hs6.2.1.2; have f7 := l_32 (a2); have f8 : (1 : Int64).toInt = 1 := rfl; have f9 : (999 : Int64).toInt = 999 := rfl; have f10 := hs10.2.1; have f11 := i_rg r9; have f12 := i_rg a2; have f13 := l_32 a2; have f14 := i_nlt c1; have f15 := i_nle c2; have f16 := i_ne c3; have f17 := i_eq c4; have f18 := i_eq w9; have f19 : (0 : Int32).toInt = 0 := rfl; omega), fun _ => trivial⟩
        · refine oq_b (h_X12_hasRoom _ _ js10.1 (by have f0 := i_rg a3; have f1 := (hs10.2.2.2 c4).1; have f2 := (hs10.2.2.2 c4).2; have f3 : (0 : Int32).toInt = 0 := rfl; have f4 : (7 : Int32).toInt = 7 := rfl; omega)) (fun r13 s14 hs14 => ?_)
          have js14 : JM 4759259971017068511234 s s14 := j_call js10 hs14.1 rfl
          refine oq_if (fun c5 => ?_) (fun c5 => ?_)
          · refine oq_b (h_X12_refuse _ js14.1 (by have f0 : (4 : Int32).toInt = 4 := rfl; omega)) (fun r15 s16 hs16 => ?_)
            have js16 : JM 4759259971017068511234 s s16 := j_call js14 hs16.1 rfl
            exact ⟨js16, trivial, fun w9 => False.elim (by have f0 := hs16.2.1; have f1 := i_rg r15; have f2 := i_rg a1; have f3 := j_rd hJ 1 3 0 4 rfl; have f4 := hs6.2.1; have f5 := i_rg r5; have f6 := hs6.2.1.2; have f7 := l_32 (a2); have f8 : (1 : Int64).toInt = 1 := rfl; have f9 : (999 : Int64).toInt = 999 := rfl; have f10 := hs10.2.1; have f11 := i_rg r9; have f12 := i_rg a3; have f13 := hs14.2.1; have f14 := i_rg r13; have f15 := i_rg a2; have f16 := l_32 a2; have f17 := i_nlt c1; have f18 := i_nle c2; have f19 := i_ne c3; have f20 := i_ne c4; have f21 := (hs10.2.2.2 c4).1; have f22 := (hs10.2.2.2 c4).2; have f23 := i_eq c5; have f24 := i_eq w9; have f25 : (0 : Int32).toInt = 0 := rfl; have f26 : (7 : Int32).toInt = 7 := rfl; omega), fun _ => trivial⟩
          · refine oq_c (inr_of (by have f0 : (((3 : Int32)) * (a1)).toInt = (3) * (a1).toInt := i_mulx ((3 : Int32)) (a1) (show -2147483648 ≤ (3) * (a1).toInt ∧ (3) * (a1).toInt ≤ 2147483647 from (by have f0 := i_rg a1; have f1 := i_nlt c1; have f2 := i_nle c2; have f3 : (0 : Int32).toInt = 0 := rfl; have f4 := j_rd hJ 1 3 0 4 rfl; omega)); have f1 : (((92 : Int32)) + (3 * a1)).toInt = ((92 : Int32)).toInt + (3 * a1).toInt := i_addx ((92 : Int32)) (3 * a1) (by have f0 : (((3 : Int32)) * (a1)).toInt = (3) * (a1).toInt := i_mulx ((3 : Int32)) (a1) (show -2147483648 ≤ (3) * (a1).toInt ∧ (3) * (a1).toInt ≤ 2147483647 from (by have f0 := i_rg a1; have f1 := i_nlt c1; have f2 := i_nle c2; have f3 : (0 : Int32).toInt = 0 := rfl; have f4 := j_rd hJ 1 3 0 4 rfl; omega)); have f1 : (92 : Int32).toInt = 92 := rfl; have f2 : (3 : Int32).toInt = 3 := rfl; have f3 := i_rg a1; have f4 := i_nlt c1; have f5 := i_nle c2; have f6 : (0 : Int32).toInt = 0 := rfl; have f7 := j_rd hJ 1 3 0 4 rfl; omega); have f2 : (92 : Int32).toInt = 92 := rfl; have f3 : (3 : Int32).toInt = 3 := rfl; have f4 := i_rg a1; have f5 := i_nlt c1; have f6 := i_nle c2; have f7 : (0 : Int32).toInt = 0 := rfl; have f8 := j_rd hJ 1 3 0 4 rfl; omega)) ?_
            refine oq_if (fun c6 => ?_) (fun c6 => ?_)
            · refine oq_b (h_X12_isGone _ js14.1 (by have f0 := i_rg a3; have f1 := (hs10.2.2.2 c4).1; have f2 := (hs10.2.2.2 c4).2; have f3 : (0 : Int32).toInt = 0 := rfl; have f4 : (7 : Int32).toInt = 7 := rfl; omega)) (fun r18 s19 hs19 => ?_)
              have js19 : JM 4759259971017068511234 s s19 := j_call js14 hs19.1 rfl
              refine oq_if (fun c7 => ?_) (fun c7 => ?_)
              · refine oq_b (h_X12_buys _ _ _ js19.1 (by have f0 := i_rg a1; have f1 := i_nlt c1; have f2 := i_nle c2; have f3 : (0 : Int32).toInt = 0 := rfl; have f4 := j_rd hJ 1 3 0 4 rfl; omega) (by have f0 := i_rg a3; have f1 := (hs10.2.2.2 c4).1; have f2 := (hs10.2.2.2 c4).2; have f3 : (0 : Int32).toInt = 0 := rfl; have f4 : (7 : Int32).toInt = 7 := rfl; omega)) (fun r20 s21 hs21 => ?_)
                have js21 : JM 4759259971017068511234 s s21 := j_call js19 hs21.1 rfl
                refine oq_b (h_X12_gives _ js21.1) (fun r22 s23 hs23 => ?_)
                have js23 : JM 4759259971017068511234 s s23 := j_call js21 hs23.1 rfl
                exact ⟨js23, trivial, fun w9 => ⟨(by have f0 : (0 : Int32).toInt = 0 := rfl; have f1 := i_rg a1; have f2 := i_nlt c1; have f3 := i_nle c2; have f4 := j_rd hJ 1 3 0 4 rfl; omega), (by have f0 := i_rg a1; have f1 : (3 : Int32).toInt = 3 := rfl; have f2 := i_nlt c1; have f3 := i_nle c2; have f4 : (0 : Int32).toInt = 0 := rfl; have f5 := j_rd hJ 1 3 0 4 rfl; omega), (by have f0 : (0 : Int32).toInt = 0 := rfl; have f1 := i_rg a3; have f2 := (hs10.2.2.2 c4).1; have f3 := (hs10.2.2.2 c4).2; have f4 : (7 : Int32).toInt = 7 := rfl; omega), (by have f0 := i_rg a3; have f1 : (7 : Int32).toInt = 7 := rfl; have f2 := (hs10.2.2.2 c4).1; have f3 := (hs10.2.2.2 c4).2; have f4 : (0 : Int32).toInt = 0 := rfl; omega)⟩, fun _ => trivial⟩
              · refine oq_b (h_X12_refuse _ js19.1 (by have f0 : (7 : Int32).toInt = 7 := rfl; omega)) (fun r24 s25 hs25 => ?_)
                have js25 : JM 4759259971017068511234 s s25 := j_call js19 hs25.1 rfl
                exact ⟨js25, trivial, fun w9 => False.elim (by have f0 := hs25.2.1; have f1 := i_rg r24; have f2 := i_rg a1; have f3 := j_rd hJ 1 3 0 4 rfl; have f4 := hs6.2.1; have f5 := i_rg r5; have f6 := hs6.2.1.2; have f7 := l_32 (a2); have f8 : (1 : Int64).toInt = 1 := rfl; have f9 : (999 : Int64).toInt = 999 := rfl; have f10 := hs10.2.1; have f11 := i_rg r9; have f12 := i_rg a3; have f13 := hs14.2.1; have f14 := i_rg r13; have f15 := i_rg a2; have f16 : (s14.1 1 ((92 + (3 * a1)).toNatClampNeg)).toInt = (s10.1 1 ((92 + (3 * a1)).toNatClampNeg)).toInt := j_fa hs14.1 ((92 + (3 * a1)).toNatClampNeg) rfl; have f17 := i_rg (s14.1 1 ((92 + (3 * a1)).toNatClampNeg)); have f18 := hs19.2.1; have f19 := i_rg r18; have f20 : (s10.1 1 ((92 + (3 * a1)).toNatClampNeg)).toInt = (s6.1 1 ((92 + (3 * a1)).toNatClampNeg)).toInt := j_fa hs10.1 ((92 + (3 * a1)).toNatClampNeg) rfl; have f21 := i_rg (s10.1 1 ((92 + (3 * a1)).toNatClampNeg)); have f22 : (s6.1 1 ((92 + (3 * a1)).toNatClampNeg)).toInt = (s.1 1 ((92 + (3 * a1)).toNatClampNeg)).toInt := j_fa hs6.1 ((92 + (3 * a1)).toNatClampNeg) rfl; have f23 := i_rg (s6.1 1 ((92 + (3 * a1)).toNatClampNeg)); have f24 := i_rg (s.1 1 ((92 + (3 * a1)).toNatClampNeg)); have f25 := l_32 a2; have f26 := i_nlt c1; have f27 := i_nle c2; have f28 := i_ne c3; have f29 := i_ne c4; have f30 := (hs10.2.2.2 c4).1; have f31 := (hs10.2.2.2 c4).2; have f32 := i_ne c5; have f33 := i_le c6; have f34 := i_ne c7; have f35 := i_eq w9; have f36 : (0 : Int32).toInt = 0 := rfl; have f37 : (7 : Int32).toInt = 7 := rfl; omega), fun _ => trivial⟩
            · refine oq_b (h_X12_refuse _ js14.1 (by have f0 : (6 : Int32).toInt = 6 := rfl; omega)) (fun r26 s27 hs27 => ?_)
              have js27 : JM 4759259971017068511234 s s27 := j_call js14 hs27.1 rfl
              exact ⟨js27, trivial, fun w9 => False.elim (by have f0 := hs27.2.1; have f1 := i_rg r26; have f2 := i_rg a1; have f3 := j_rd hJ 1 3 0 4 rfl; have f4 := hs6.2.1; have f5 := i_rg r5; have f6 := hs6.2.1.2; have f7 := l_32 (a2); have f8 : (1 : Int64).toInt = 1 := rfl; have f9 : (999 : Int64).toInt = 999 := rfl; have f10 := hs10.2.1; have f11 := i_rg r9; have f12 := i_rg a3; have f13 := hs14.2.1; have f14 := i_rg r13; have f15 := i_rg a2; have f16 : (s14.1 1 ((92 + (3 * a1)).toNatClampNeg)).toInt = (s10.1 1 ((92 + (3 * a1)).toNatClampNeg)).toInt := j_fa hs14.1 ((92 + (3 * a1)).toNatClampNeg) rfl; have f17 := i_rg (s14.1 1 ((92 + (3 * a1)).toNatClampNeg)); have f18 : (s10.1 1 ((92 + (3 * a1)).toNatClampNeg)).toInt = (s6.1 1 ((92 + (3 * a1)).toNatClampNeg)).toInt := j_fa hs10.1 ((92 + (3 * a1)).toNatClampNeg) rfl; have f19 := i_rg (s10.1 1 ((92 + (3 * a1)).toNatClampNeg)); have f20 : (s6.1 1 ((92 + (3 * a1)).toNatClampNeg)).toInt = (s.1 1 ((92 + (3 * a1)).toNatClampNeg)).toInt := j_fa hs6.1 ((92 + (3 * a1)).toNatClampNeg) rfl; have f21 := i_rg (s6.1 1 ((92 + (3 * a1)).toNatClampNeg)); have f22 := i_rg (s.1 1 ((92 + (3 * a1)).toNatClampNeg)); have f23 := l_32 a2; have f24 := i_nlt c1; have f25 := i_nle c2; have f26 := i_ne c3; have f27 := i_ne c4; have f28 := (hs10.2.2.2 c4).1; have f29 := (hs10.2.2.2 c4).2; have f30 := i_ne c5; have f31 := i_nle c6; have f32 := i_eq w9; have f33 : (0 : Int32).toInt = 0 := rfl; have f34 : (7 : Int32).toInt = 7 := rfl; omega), fun _ => trivial⟩
set_option maxRecDepth 20000 in
theorem h_X12_sweeps (a1 : Int32) {s : Sg} (hR : Rg rM s) (p_a1 : (-1) ≤ a1.toInt ∧ a1.toInt ≤ 7) : OQ (f_X12_sweeps a1 s) (fun r9 s9 => JM 147573952589676412930 s s9 ∧ True ∧ (r9 = 0 → True) ∧ (¬ r9 = 0 → True)) := by
  have hJ : JM 147573952589676412930 s s := j_refl hR
  unfold f_X12_sweeps
  refine oq_b (h_X12_grainsOn _ hJ.1 (by have f0 := p_a1; have f1 := i_rg a1; omega)) (fun r1 s2 hs2 => ?_)
  have js2 : JM 147573952589676412930 s s2 := j_call hJ hs2.1 rfl
  refine oq_b (h_X12_houseRow _ js2.1 (by have f0 := p_a1; have f1 := i_rg a1; omega)) (fun r3 s4 hs4 => ?_)
  have js4 : JM 147573952589676412930 s s4 := j_call js2 hs4.1 rfl
  refine oq_c (inr_of (by have f0 := hs4.2.1; have f1 := i_rg r3; have f2 := hs4.2.1.2; have f3 := p_a1; have f4 := i_rg a1; omega)) ?_
  refine oq_b (h_X12_houseRow _ ((j_wm js4 (rz_0 r3.toNatClampNeg) (mk_1 (by have d0 := hs4.2.1; have d1 := i_rg r3; have d2 := hs4.2.1.2; have d3 := p_a1; have d4 := i_rg a1; have d5 := cl_nat (r3); omega) rfl)) : JM 147573952589676412930 s (pI s4 1 r3.toNatClampNeg 0)).1 (by have f0 := p_a1; have f1 := i_rg a1; have f2 := hs4.2.1.2; have f3 := hs4.2.1; have f4 := i_rg r3; omega)) (fun r6 s7 hs7 => ?_)
  have js7 : JM 147573952589676412930 s s7 := j_call ((j_wm js4 (rz_0 r3.toNatClampNeg) (mk_1 (by have d0 := hs4.2.1; have d1 := i_rg r3; have d2 := hs4.2.1.2; have d3 := p_a1; have d4 := i_rg a1; have d5 := cl_nat (r3); omega) rfl)) : JM 147573952589676412930 s (pI s4 1 r3.toNatClampNeg 0)) hs7.1 rfl
  refine oq_c (inr_of (by have f0 : ((r6) + ((1 : Int32))).toInt = (r6).toInt + ((1 : Int32)).toInt := i_addx (r6) ((1 : Int32)) (by have f0 := hs7.2.1; have f1 := i_rg r6; have f2 := hs7.2.1.2; have f3 : (1 : Int32).toInt = 1 := rfl; have f4 := p_a1; have f5 := i_rg a1; have f6 := hs4.2.1.2; have f7 := hs4.2.1; have f8 := i_rg r3; omega); have f1 := hs7.2.1; have f2 := i_rg r6; have f3 := hs7.2.1.2; have f4 : (1 : Int32).toInt = 1 := rfl; have f5 := p_a1; have f6 := i_rg a1; have f7 := hs4.2.1.2; have f8 := hs4.2.1; have f9 := i_rg r3; omega)) ?_
  refine oq_n (fun s9 es9 => ?_)
  have js9 : JM 147573952589676412930 s s9 := by rw [es9]; exact (j_wm js7 (rz_0 ((r6 + 1).toNatClampNeg)) (mk_1 (by have d0 : ((r6) + ((1 : Int32))).toInt = (r6).toInt + ((1 : Int32)).toInt := i_addx (r6) ((1 : Int32)) (by have f0 := hs7.2.1; have f1 := i_rg r6; have f2 := hs7.2.1.2; have f3 : (1 : Int32).toInt = 1 := rfl; have f4 := p_a1; have f5 := i_rg a1; have f6 := hs4.2.1.2; have f7 := hs4.2.1; have f8 := i_rg r3; omega); have d1 := hs7.2.1; have d2 := i_rg r6; have d3 := hs7.2.1.2; have d4 : (1 : Int32).toInt = 1 := rfl; have d5 := p_a1; have d6 := i_rg a1; have d7 := hs4.2.1.2; have d8 := hs4.2.1; have d9 := i_rg r3; have d10 := cl_nat (r6 + 1); omega) rfl))
  exact ⟨(j_wf js9 rfl 67 rfl rfl), trivial, fun _ => trivial, fun _ => trivial⟩
set_option maxRecDepth 20000 in
theorem h_X12_sweep (a1 : Int32) {s : Sg} (hR : Rg rM s) : OQ (f_X12_sweep a1 s) (fun r9 s9 => JM 147573952589680607234 s s9 ∧ True ∧ (r9 = 0 → True) ∧ (¬ r9 = 0 → True)) := by
  have hJ : JM 147573952589680607234 s s := j_refl hR
  unfold f_X12_sweep
  refine oq_b (h_X12_wrongStep _ hJ.1) (fun r1 s2 hs2 => ?_)
  have js2 : JM 147573952589680607234 s s2 := j_call hJ hs2.1 rfl
  refine oq_if (fun c1 => ?_) (fun c1 => ?_)
  · refine oq_b (h_X12_sweeps _ js2.1 (by have f0 := i_rg a1; have f1 := hs2.2.1.2; have f2 := i_le c1; have f3 := hs2.2.1; have f4 := i_rg r1; have f5 : (0 : Int32).toInt = 0 := rfl; omega)) (fun r3 s4 hs4 => ?_)
    have js4 : JM 147573952589680607234 s s4 := j_call js2 hs4.1 rfl
    refine oq_b (h_X12_gives _ js4.1) (fun r5 s6 hs6 => ?_)
    have js6 : JM 147573952589680607234 s s6 := j_call js4 hs6.1 rfl
    exact ⟨js6, trivial, fun _ => trivial, fun _ => trivial⟩
  · refine oq_b (h_X12_refuse _ js2.1 (by have f0 := hs2.2.1; have f1 := i_rg r1; have f2 := hs2.2.1.2; have f3 := i_rg a1; have f4 := i_nle c1; have f5 : (0 : Int32).toInt = 0 := rfl; omega)) (fun r7 s8 hs8 => ?_)
    have js8 : JM 147573952589680607234 s s8 := j_call js2 hs8.1 rfl
    exact ⟨js8, trivial, fun w9 => False.elim (by have f0 := hs8.2.1; have f1 := i_rg r7; have f2 := hs2.2.1; have f3 := i_rg r1; have f4 := hs2.2.1.2; have f5 := i_rg a1; have f6 := i_nle c1; have f7 := i_eq w9; have f8 : (0 : Int32).toInt = 0 := rfl; omega), fun _ => trivial⟩
set_option maxRecDepth 20000 in
theorem h_X12_brings (a1 : Int32) (a2 : Int32) (a3 : Int32) {s : Sg} (hR : Rg rM s) (p_a1 : (-1) ≤ a1.toInt ∧ a1.toInt ≤ 7) (p_a2 : (-1) ≤ a2.toInt ∧ a2.toInt ≤ 7) : OQ (f_X12_brings a1 a2 a3 s) (fun r9 s9 => JM 2 s s9 ∧ True ∧ (r9 = 0 → True) ∧ (¬ r9 = 0 → True)) := by
  have hJ : JM 2 s s := j_refl hR
  unfold f_X12_brings
  refine oq_b (h_X12_houseRow _ hJ.1 (by have f0 := p_a1; have f1 := i_rg a1; omega)) (fun r1 s2 hs2 => ?_)
  have js2 : JM 2 s s2 := j_call hJ hs2.1 rfl
  refine oq_c (inr_of (by have f0 := hs2.2.1; have f1 := i_rg r1; have f2 := hs2.2.1.2; have f3 := p_a1; have f4 := i_rg a1; omega)) ?_
  refine oq_n (fun x4 ex4 => ?_)
  refine oq_b (h_X12_houseRow _ js2.1 (by have f0 := p_a1; have f1 := i_rg a1; have f2 := hs2.2.1.2; have f3 := hs2.2.1; have f4 := i_rg r1; omega)) (fun r5 s6 hs6 => ?_)
  have js6 : JM 2 s s6 := j_call js2 hs6.1 rfl
  refine oq_c (inr_of (by have f0 : ((r5) + ((1 : Int32))).toInt = (r5).toInt + ((1 : Int32)).toInt := i_addx (r5) ((1 : Int32)) (by have f0 := hs6.2.1; have f1 := i_rg r5; have f2 := hs6.2.1.2; have f3 : (1 : Int32).toInt = 1 := rfl; have f4 := p_a1; have f5 := i_rg a1; have f6 := hs2.2.1.2; have f7 := hs2.2.1; have f8 := i_rg r1; omega); have f1 := hs6.2.1; have f2 := i_rg r5; have f3 := hs6.2.1.2; have f4 : (1 : Int32).toInt = 1 := rfl; have f5 := p_a1; have f6 := i_rg a1; have f7 := hs2.2.1.2; have f8 := hs2.2.1; have f9 := i_rg r1; omega)) ?_
  refine oq_n (fun x8 ex8 => ?_)
  refine oq_b (h_X12_houseRow _ js6.1 (by have f0 := p_a1; have f1 := i_rg a1; have f2 := hs2.2.1.2; have f3 := hs6.2.1.2; have f4 := hs2.2.1; have f5 := i_rg r1; have f6 := hs6.2.1; have f7 := i_rg r5; omega)) (fun r9 s10 hs10 => ?_)
  have js10 : JM 2 s s10 := j_call js6 hs10.1 rfl
  refine oq_c (inr_of (by have f0 := hs10.2.1; have f1 := i_rg r9; have f2 := hs10.2.1.2; have f3 := p_a1; have f4 := i_rg a1; have f5 := hs2.2.1.2; have f6 := hs6.2.1.2; have f7 := hs2.2.1; have f8 := i_rg r1; have f9 := hs6.2.1; have f10 := i_rg r5; omega)) ?_
  refine oq_n (fun s12 es12 => ?_)
  have js12 : JM 2 s s12 := by rw [es12]; exact (j_wm js10 (rz_f (Or.inr (Or.inl (by have d0 := hs10.2.1; have d1 := i_rg r9; have d2 := hs10.2.1.2; have d3 := p_a1; have d4 := i_rg a1; have d5 := hs2.2.1.2; have d6 := hs6.2.1.2; have d7 := hs2.2.1; have d8 := i_rg r1; have d9 := hs6.2.1; have d10 := i_rg r5; have d11 := cl_nat (r9); omega))) ((s10.1 1 r9.toNatClampNeg) - x4)) (mk_1 (by have d0 := hs10.2.1; have d1 := i_rg r9; have d2 := hs10.2.1.2; have d3 := p_a1; have d4 := i_rg a1; have d5 := hs2.2.1.2; have d6 := hs6.2.1.2; have d7 := hs2.2.1; have d8 := i_rg r1; have d9 := hs6.2.1; have d10 := i_rg r5; have d11 := cl_nat (r9); omega) rfl))
  refine oq_b (h_X12_houseRow _ js12.1 (by have f0 := p_a1; have f1 := i_rg a1; have f2 := hs2.2.1.2; have f3 := hs6.2.1.2; have f4 := hs10.2.1.2; have f5 := hs2.2.1; have f6 := i_rg r1; have f7 := hs6.2.1; have f8 := i_rg r5; have f9 := hs10.2.1; have f10 := i_rg r9; omega)) (fun r13 s14 hs14 => ?_)
  have js14 : JM 2 s s14 := j_call js12 hs14.1 rfl
  refine oq_c (inr_of (by have f0 : ((r13) + ((1 : Int32))).toInt = (r13).toInt + ((1 : Int32)).toInt := i_addx (r13) ((1 : Int32)) (by have f0 := hs14.2.1; have f1 := i_rg r13; have f2 := hs14.2.1.2; have f3 : (1 : Int32).toInt = 1 := rfl; have f4 := p_a1; have f5 := i_rg a1; have f6 := hs2.2.1.2; have f7 := hs6.2.1.2; have f8 := hs10.2.1.2; have f9 := hs2.2.1; have f10 := i_rg r1; have f11 := hs6.2.1; have f12 := i_rg r5; have f13 := hs10.2.1; have f14 := i_rg r9; omega); have f1 := hs14.2.1; have f2 := i_rg r13; have f3 := hs14.2.1.2; have f4 : (1 : Int32).toInt = 1 := rfl; have f5 := p_a1; have f6 := i_rg a1; have f7 := hs2.2.1.2; have f8 := hs6.2.1.2; have f9 := hs10.2.1.2; have f10 := hs2.2.1; have f11 := i_rg r1; have f12 := hs6.2.1; have f13 := i_rg r5; have f14 := hs10.2.1; have f15 := i_rg r9; omega)) ?_
  refine oq_n (fun s16 es16 => ?_)
  have js16 : JM 2 s s16 := by rw [es16]; exact (j_wm js14 (rz_f (Or.inr (Or.inl (by have d0 : ((r13) + ((1 : Int32))).toInt = (r13).toInt + ((1 : Int32)).toInt := i_addx (r13) ((1 : Int32)) (by have f0 := hs14.2.1; have f1 := i_rg r13; have f2 := hs14.2.1.2; have f3 : (1 : Int32).toInt = 1 := rfl; have f4 := p_a1; have f5 := i_rg a1; have f6 := hs2.2.1.2; have f7 := hs6.2.1.2; have f8 := hs10.2.1.2; have f9 := hs2.2.1; have f10 := i_rg r1; have f11 := hs6.2.1; have f12 := i_rg r5; have f13 := hs10.2.1; have f14 := i_rg r9; omega); have d1 := hs14.2.1; have d2 := i_rg r13; have d3 := hs14.2.1.2; have d4 : (1 : Int32).toInt = 1 := rfl; have d5 := p_a1; have d6 := i_rg a1; have d7 := hs2.2.1.2; have d8 := hs6.2.1.2; have d9 := hs10.2.1.2; have d10 := hs2.2.1; have d11 := i_rg r1; have d12 := hs6.2.1; have d13 := i_rg r5; have d14 := hs10.2.1; have d15 := i_rg r9; have d16 := cl_nat (r13 + 1); omega))) ((s14.1 1 ((r13 + 1).toNatClampNeg)) - x8)) (mk_1 (by have d0 : ((r13) + ((1 : Int32))).toInt = (r13).toInt + ((1 : Int32)).toInt := i_addx (r13) ((1 : Int32)) (by have f0 := hs14.2.1; have f1 := i_rg r13; have f2 := hs14.2.1.2; have f3 : (1 : Int32).toInt = 1 := rfl; have f4 := p_a1; have f5 := i_rg a1; have f6 := hs2.2.1.2; have f7 := hs6.2.1.2; have f8 := hs10.2.1.2; have f9 := hs2.2.1; have f10 := i_rg r1; have f11 := hs6.2.1; have f12 := i_rg r5; have f13 := hs10.2.1; have f14 := i_rg r9; omega); have d1 := hs14.2.1; have d2 := i_rg r13; have d3 := hs14.2.1.2; have d4 : (1 : Int32).toInt = 1 := rfl; have d5 := p_a1; have d6 := i_rg a1; have d7 := hs2.2.1.2; have d8 := hs6.2.1.2; have d9 := hs10.2.1.2; have d10 := hs2.2.1; have d11 := i_rg r1; have d12 := hs6.2.1; have d13 := i_rg r5; have d14 := hs10.2.1; have d15 := i_rg r9; have d16 := cl_nat (r13 + 1); omega) rfl))
  refine oq_b (h_X12_houseRow _ js16.1 (by have f0 := p_a2; have f1 := i_rg a2; omega)) (fun r17 s18 hs18 => ?_)
  have js18 : JM 2 s s18 := j_call js16 hs18.1 rfl
  refine oq_c (inr_of (by have f0 := hs18.2.1; have f1 := i_rg r17; have f2 := hs18.2.1.2; have f3 := p_a2; have f4 := i_rg a2; omega)) ?_
  refine oq_n (fun s20 es20 => ?_)
  have js20 : JM 2 s s20 := by rw [es20]; exact (j_wm js18 (rz_f (Or.inr (Or.inl (by have d0 := hs18.2.1; have d1 := i_rg r17; have d2 := hs18.2.1.2; have d3 := p_a2; have d4 := i_rg a2; have d5 := cl_nat (r17); omega))) ((s18.1 1 r17.toNatClampNeg) + x4)) (mk_1 (by have d0 := hs18.2.1; have d1 := i_rg r17; have d2 := hs18.2.1.2; have d3 := p_a2; have d4 := i_rg a2; have d5 := cl_nat (r17); omega) rfl))
  refine oq_b (h_X12_houseRow _ js20.1 (by have f0 := p_a2; have f1 := i_rg a2; have f2 := hs18.2.1.2; have f3 := hs18.2.1; have f4 := i_rg r17; omega)) (fun r21 s22 hs22 => ?_)
  have js22 : JM 2 s s22 := j_call js20 hs22.1 rfl
  refine oq_c (inr_of (by have f0 : ((r21) + ((1 : Int32))).toInt = (r21).toInt + ((1 : Int32)).toInt := i_addx (r21) ((1 : Int32)) (by have f0 := hs22.2.1; have f1 := i_rg r21; have f2 := hs22.2.1.2; have f3 : (1 : Int32).toInt = 1 := rfl; have f4 := p_a2; have f5 := i_rg a2; have f6 := hs18.2.1.2; have f7 := hs18.2.1; have f8 := i_rg r17; omega); have f1 := hs22.2.1; have f2 := i_rg r21; have f3 := hs22.2.1.2; have f4 : (1 : Int32).toInt = 1 := rfl; have f5 := p_a2; have f6 := i_rg a2; have f7 := hs18.2.1.2; have f8 := hs18.2.1; have f9 := i_rg r17; omega)) ?_
  refine oq_n (fun s24 es24 => ?_)
  have js24 : JM 2 s s24 := by rw [es24]; exact (j_wm js22 (rz_f (Or.inr (Or.inl (by have d0 : ((r21) + ((1 : Int32))).toInt = (r21).toInt + ((1 : Int32)).toInt := i_addx (r21) ((1 : Int32)) (by have f0 := hs22.2.1; have f1 := i_rg r21; have f2 := hs22.2.1.2; have f3 : (1 : Int32).toInt = 1 := rfl; have f4 := p_a2; have f5 := i_rg a2; have f6 := hs18.2.1.2; have f7 := hs18.2.1; have f8 := i_rg r17; omega); have d1 := hs22.2.1; have d2 := i_rg r21; have d3 := hs22.2.1.2; have d4 : (1 : Int32).toInt = 1 := rfl; have d5 := p_a2; have d6 := i_rg a2; have d7 := hs18.2.1.2; have d8 := hs18.2.1; have d9 := i_rg r17; have d10 := cl_nat (r21 + 1); omega))) ((s22.1 1 ((r21 + 1).toNatClampNeg)) + x8)) (mk_1 (by have d0 : ((r21) + ((1 : Int32))).toInt = (r21).toInt + ((1 : Int32)).toInt := i_addx (r21) ((1 : Int32)) (by have f0 := hs22.2.1; have f1 := i_rg r21; have f2 := hs22.2.1.2; have f3 : (1 : Int32).toInt = 1 := rfl; have f4 := p_a2; have f5 := i_rg a2; have f6 := hs18.2.1.2; have f7 := hs18.2.1; have f8 := i_rg r17; omega); have d1 := hs22.2.1; have d2 := i_rg r21; have d3 := hs22.2.1.2; have d4 : (1 : Int32).toInt = 1 := rfl; have d5 := p_a2; have d6 := i_rg a2; have d7 := hs18.2.1.2; have d8 := hs18.2.1; have d9 := i_rg r17; have d10 := cl_nat (r21 + 1); omega) rfl))
  exact ⟨js24, trivial, fun _ => trivial, fun _ => trivial⟩
set_option maxRecDepth 20000 in
theorem h_X12_shovel (a1 : Int32) (a2 : Int32) (a3 : Int32) {s : Sg} (hR : Rg rM s) : OQ (f_X12_shovel a1 a2 a3 s) (fun r9 s9 => JM 4194306 s s9 ∧ True ∧ (r9 = 0 → 0 ≤ (a1).toInt ∧ (a1).toInt ≤ 7 ∧ 0 ≤ (a2).toInt ∧ (a2).toInt ≤ 7) ∧ (¬ r9 = 0 → True)) := by
  have hJ : JM 4194306 s s := j_refl hR
  unfold f_X12_shovel
  refine oq_b (h_X12_isHouse _ hJ.1) (fun r1 s2 hs2 => ?_)
  have js2 : JM 4194306 s s2 := j_call hJ hs2.1 rfl
  refine oq_if (fun c1 => ?_) (fun c1 => ?_)
  · refine oq_b (h_X12_refuse _ js2.1 (by have f0 : (1 : Int32).toInt = 1 := rfl; omega)) (fun r3 s4 hs4 => ?_)
    have js4 : JM 4194306 s s4 := j_call js2 hs4.1 rfl
    exact ⟨js4, trivial, fun w9 => False.elim (by have f0 := hs4.2.1; have f1 := i_rg r3; have f2 := hs2.2.1; have f3 := i_rg r1; have f4 := i_eq c1; have f5 := i_eq w9; have f6 : (0 : Int32).toInt = 0 := rfl; omega), fun _ => trivial⟩
  · refine oq_b (h_X12_isHouse _ js2.1) (fun r5 s6 hs6 => ?_)
    have js6 : JM 4194306 s s6 := j_call js2 hs6.1 rfl
    refine oq_if (fun c2 => ?_) (fun c2 => ?_)
    · refine oq_b (h_X12_refuse _ js6.1 (by have f0 : (1 : Int32).toInt = 1 := rfl; omega)) (fun r7 s8 hs8 => ?_)
      have js8 : JM 4194306 s s8 := j_call js6 hs8.1 rfl
      exact ⟨js8, trivial, fun w9 => False.elim (by have f0 := hs8.2.1; have f1 := i_rg r7; have f2 := hs2.2.1; have f3 := i_rg r1; have f4 := i_rg a1; have f5 := hs6.2.1; have f6 := i_rg r5; have f7 := i_ne c1; have f8 := (hs2.2.2.2 c1).1; have f9 := (hs2.2.2.2 c1).2; have f10 := i_eq c2; have f11 := i_eq w9; have f12 : (0 : Int32).toInt = 0 := rfl; have f13 : (7 : Int32).toInt = 7 := rfl; omega), fun _ => trivial⟩
    · refine oq_if (fun c3 => ?_) (fun c3 => ?_)
      · refine oq_b (h_X12_refuse _ js6.1 (by have f0 : (1 : Int32).toInt = 1 := rfl; omega)) (fun r9 s10 hs10 => ?_)
        have js10 : JM 4194306 s s10 := j_call js6 hs10.1 rfl
        exact ⟨js10, trivial, fun w9 => False.elim (by have f0 := hs10.2.1; have f1 := i_rg r9; have f2 := hs2.2.1; have f3 := i_rg r1; have f4 := i_rg a1; have f5 := hs6.2.1; have f6 := i_rg r5; have f7 := i_rg a2; have f8 := i_ne c1; have f9 := (hs2.2.2.2 c1).1; have f10 := (hs2.2.2.2 c1).2; have f11 := i_ne c2; have f12 := (hs6.2.2.2 c2).1; have f13 := (hs6.2.2.2 c2).2; have f14 := i_eq c3; have f15 := i_eq w9; have f16 : (0 : Int32).toInt = 0 := rfl; have f17 : (7 : Int32).toInt = 7 := rfl; omega), fun _ => trivial⟩
      · refine oq_b (h_X12_isFrom _ _ _ js6.1) (fun r11 s12 hs12 => ?_)
        have js12 : JM 4194306 s s12 := j_call js6 hs12.1 rfl
        refine oq_if (fun c4 => ?_) (fun c4 => ?_)
        · refine oq_b (h_X12_refuse _ js12.1 (by have f0 : (1 : Int32).toInt = 1 := rfl; omega)) (fun r13 s14 hs14 => ?_)
          have js14 : JM 4194306 s s14 := j_call js12 hs14.1 rfl
          exact ⟨js14, trivial, fun w9 => False.elim (by have f0 := hs14.2.1; have f1 := i_rg r13; have f2 := hs2.2.1; have f3 := i_rg r1; have f4 := i_rg a1; have f5 := hs6.2.1; have f6 := i_rg r5; have f7 := i_rg a2; have f8 := hs12.2.1; have f9 := i_rg r11; have f10 := hs12.2.1.2; have f11 := l_32 (a3); have f12 : (1 : Int64).toInt = 1 := rfl; have f13 : (999 : Int64).toInt = 999 := rfl; have f14 := i_rg a3; have f15 := l_32 a3; have f16 := i_ne c1; have f17 := (hs2.2.2.2 c1).1; have f18 := (hs2.2.2.2 c1).2; have f19 := i_ne c2; have f20 := (hs6.2.2.2 c2).1; have f21 := (hs6.2.2.2 c2).2; have f22 := i_ne c3; have f23 := i_eq c4; have f24 := i_eq w9; have f25 : (0 : Int32).toInt = 0 := rfl; have f26 : (7 : Int32).toInt = 7 := rfl; omega), fun _ => trivial⟩
        · refine oq_b (h_X12_grainsOn _ js12.1 (by have f0 := i_rg a1; have f1 := (hs2.2.2.2 c1).1; have f2 := (hs2.2.2.2 c1).2; have f3 := i_ne c3; have f4 : (0 : Int32).toInt = 0 := rfl; have f5 : (7 : Int32).toInt = 7 := rfl; have f6 := i_rg a2; have f7 := (hs6.2.2.2 c2).1; have f8 := (hs6.2.2.2 c2).2; omega)) (fun r15 s16 hs16 => ?_)
          have js16 : JM 4194306 s s16 := j_call js12 hs16.1 rfl
          refine oq_if (fun c5 => ?_) (fun c5 => ?_)
          · refine oq_b (h_X12_isGone _ js16.1 (by have f0 := i_rg a1; have f1 := (hs2.2.2.2 c1).1; have f2 := (hs2.2.2.2 c1).2; have f3 := i_ne c3; have f4 : (0 : Int32).toInt = 0 := rfl; have f5 : (7 : Int32).toInt = 7 := rfl; have f6 := i_rg a2; have f7 := (hs6.2.2.2 c2).1; have f8 := (hs6.2.2.2 c2).2; omega)) (fun r17 s18 hs18 => ?_)
            have js18 : JM 4194306 s s18 := j_call js16 hs18.1 rfl
            refine oq_if (fun c6 => ?_) (fun c6 => ?_)
            · refine oq_b (h_X12_isGone _ js18.1 (by have f0 := i_rg a2; have f1 := (hs6.2.2.2 c2).1; have f2 := (hs6.2.2.2 c2).2; have f3 := i_ne c3; have f4 : (0 : Int32).toInt = 0 := rfl; have f5 : (7 : Int32).toInt = 7 := rfl; have f6 := i_rg a1; have f7 := (hs2.2.2.2 c1).1; have f8 := (hs2.2.2.2 c1).2; omega)) (fun r19 s20 hs20 => ?_)
              have js20 : JM 4194306 s s20 := j_call js18 hs20.1 rfl
              refine oq_if (fun c7 => ?_) (fun c7 => ?_)
              · refine oq_b (h_X12_brings _ _ _ js20.1 (by have f0 := i_rg a1; have f1 := (hs2.2.2.2 c1).1; have f2 := (hs2.2.2.2 c1).2; have f3 := i_ne c3; have f4 : (0 : Int32).toInt = 0 := rfl; have f5 : (7 : Int32).toInt = 7 := rfl; have f6 := i_rg a2; have f7 := (hs6.2.2.2 c2).1; have f8 := (hs6.2.2.2 c2).2; omega) (by have f0 := i_rg a2; have f1 := (hs6.2.2.2 c2).1; have f2 := (hs6.2.2.2 c2).2; have f3 := i_ne c3; have f4 : (0 : Int32).toInt = 0 := rfl; have f5 : (7 : Int32).toInt = 7 := rfl; have f6 := i_rg a1; have f7 := (hs2.2.2.2 c1).1; have f8 := (hs2.2.2.2 c1).2; omega)) (fun r21 s22 hs22 => ?_)
                have js22 : JM 4194306 s s22 := j_call js20 hs22.1 rfl
                refine oq_b (h_X12_gives _ js22.1) (fun r23 s24 hs24 => ?_)
                have js24 : JM 4194306 s s24 := j_call js22 hs24.1 rfl
                exact ⟨js24, trivial, fun w9 => ⟨(by have f0 : (0 : Int32).toInt = 0 := rfl; have f1 := i_rg a1; have f2 := (hs2.2.2.2 c1).1; have f3 := (hs2.2.2.2 c1).2; have f4 := i_ne c3; have f5 : (7 : Int32).toInt = 7 := rfl; have f6 := i_rg a2; have f7 := (hs6.2.2.2 c2).1; have f8 := (hs6.2.2.2 c2).2; omega), (by have f0 := i_rg a1; have f1 : (7 : Int32).toInt = 7 := rfl; have f2 := (hs2.2.2.2 c1).1; have f3 := (hs2.2.2.2 c1).2; have f4 := i_ne c3; have f5 : (0 : Int32).toInt = 0 := rfl; have f6 := i_rg a2; have f7 := (hs6.2.2.2 c2).1; have f8 := (hs6.2.2.2 c2).2; omega), (by have f0 : (0 : Int32).toInt = 0 := rfl; have f1 := i_rg a2; have f2 := (hs6.2.2.2 c2).1; have f3 := (hs6.2.2.2 c2).2; have f4 := i_ne c3; have f5 : (7 : Int32).toInt = 7 := rfl; have f6 := i_rg a1; have f7 := (hs2.2.2.2 c1).1; have f8 := (hs2.2.2.2 c1).2; omega), (by have f0 := i_rg a2; have f1 : (7 : Int32).toInt = 7 := rfl; have f2 := (hs6.2.2.2 c2).1; have f3 := (hs6.2.2.2 c2).2; have f4 := i_ne c3; have f5 : (0 : Int32).toInt = 0 := rfl; have f6 := i_rg a1; have f7 := (hs2.2.2.2 c1).1; have f8 := (hs2.2.2.2 c1).2; omega)⟩, fun _ => trivial⟩
              · refine oq_b (h_X12_refuse _ js20.1 (by have f0 : (7 : Int32).toInt = 7 := rfl; omega)) (fun r25 s26 hs26 => ?_)
                have js26 : JM 4194306 s s26 := j_call js20 hs26.1 rfl
                exact ⟨js26, trivial, fun w9 => False.elim (by have f0 := hs26.2.1; have f1 := i_rg r25; have f2 := hs2.2.1; have f3 := i_rg r1; have f4 := i_rg a1; have f5 := hs6.2.1; have f6 := i_rg r5; have f7 := i_rg a2; have f8 := hs12.2.1; have f9 := i_rg r11; have f10 := hs12.2.1.2; have f11 := l_32 (a3); have f12 : (1 : Int64).toInt = 1 := rfl; have f13 : (999 : Int64).toInt = 999 := rfl; have f14 := i_rg a3; have f15 := i_rg r15; have f16 := hs18.2.1; have f17 := i_rg r17; have f18 := hs20.2.1; have f19 := i_rg r19; have f20 := l_32 a3; have f21 := i_ne c1; have f22 := (hs2.2.2.2 c1).1; have f23 := (hs2.2.2.2 c1).2; have f24 := i_ne c2; have f25 := (hs6.2.2.2 c2).1; have f26 := (hs6.2.2.2 c2).2; have f27 := i_ne c3; have f28 := i_ne c4; have f29 := i_le c5; have f30 := i_eq c6; have f31 := i_ne c7; have f32 := i_eq w9; have f33 : (0 : Int32).toInt = 0 := rfl; have f34 : (7 : Int32).toInt = 7 := rfl; omega), fun _ => trivial⟩
            · refine oq_b (h_X12_refuse _ js18.1 (by have f0 : (7 : Int32).toInt = 7 := rfl; omega)) (fun r27 s28 hs28 => ?_)
              have js28 : JM 4194306 s s28 := j_call js18 hs28.1 rfl
              exact ⟨js28, trivial, fun w9 => False.elim (by have f0 := hs28.2.1; have f1 := i_rg r27; have f2 := hs2.2.1; have f3 := i_rg r1; have f4 := i_rg a1; have f5 := hs6.2.1; have f6 := i_rg r5; have f7 := i_rg a2; have f8 := hs12.2.1; have f9 := i_rg r11; have f10 := hs12.2.1.2; have f11 := l_32 (a3); have f12 : (1 : Int64).toInt = 1 := rfl; have f13 : (999 : Int64).toInt = 999 := rfl; have f14 := i_rg a3; have f15 := i_rg r15; have f16 := hs18.2.1; have f17 := i_rg r17; have f18 := l_32 a3; have f19 := i_ne c1; have f20 := (hs2.2.2.2 c1).1; have f21 := (hs2.2.2.2 c1).2; have f22 := i_ne c2; have f23 := (hs6.2.2.2 c2).1; have f24 := (hs6.2.2.2 c2).2; have f25 := i_ne c3; have f26 := i_ne c4; have f27 := i_le c5; have f28 := i_ne c6; have f29 := i_eq w9; have f30 : (0 : Int32).toInt = 0 := rfl; have f31 : (7 : Int32).toInt = 7 := rfl; omega), fun _ => trivial⟩
          · refine oq_b (h_X12_refuse _ js16.1 (by have f0 : (6 : Int32).toInt = 6 := rfl; omega)) (fun r29 s30 hs30 => ?_)
            have js30 : JM 4194306 s s30 := j_call js16 hs30.1 rfl
            exact ⟨js30, trivial, fun w9 => False.elim (by have f0 := hs30.2.1; have f1 := i_rg r29; have f2 := hs2.2.1; have f3 := i_rg r1; have f4 := i_rg a1; have f5 := hs6.2.1; have f6 := i_rg r5; have f7 := i_rg a2; have f8 := hs12.2.1; have f9 := i_rg r11; have f10 := hs12.2.1.2; have f11 := l_32 (a3); have f12 : (1 : Int64).toInt = 1 := rfl; have f13 : (999 : Int64).toInt = 999 := rfl; have f14 := i_rg a3; have f15 := i_rg r15; have f16 := l_32 a3; have f17 := i_ne c1; have f18 := (hs2.2.2.2 c1).1; have f19 := (hs2.2.2.2 c1).2; have f20 := i_ne c2; have f21 := (hs6.2.2.2 c2).1; have f22 := (hs6.2.2.2 c2).2; have f23 := i_ne c3; have f24 := i_ne c4; have f25 := i_nle c5; have f26 := i_eq w9; have f27 : (0 : Int32).toInt = 0 := rfl; have f28 : (7 : Int32).toInt = 7 := rfl; omega), fun _ => trivial⟩
