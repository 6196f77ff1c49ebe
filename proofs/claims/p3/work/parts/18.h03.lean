theorem h_X4_reachedFrom_b15 {s0 : Sg} (k_6 : Int32 → Int32 → Sg → Option (Int32 × Sg)) (m_6 : Nat) (hk_6 : ∀ (v2 : Int32) (v3 : Int32) (s : Sg), JC 0 s0 s → 0 ≤ v3.toInt ∧ v3.toInt ≤ 8 → 8 - v3.toInt < (m_6 : Int) → OQ (k_6 v2 v3 s) (fun r9 s9 => JC 0 s0 s9 ∧ True ∧ (r9 = 0 → True) ∧ (¬ r9 = 0 → True))) (n : Nat) : ∀ (v2 : Int32) (v3 : Int32) (v4 : Int32) (s : Sg), JC 0 s0 s → 0 ≤ v3.toInt ∧ v3.toInt ≤ 7 → 0 ≤ v4.toInt ∧ v4.toInt ≤ 4 → 8 - v3.toInt < (m_6 : Int) + 1 → 4 - v4.toInt < (n : Int) → OQ (f_X4_reachedFrom_b15 k_6 n v2 v3 v4 s) (fun r9 s9 => JC 0 s0 s9 ∧ True ∧ (r9 = 0 → True) ∧ (¬ r9 = 0 → True)) := by
  induction n with
  | zero => intro v2 v3 v4 s hJ p_v3 p_v4 hm_6 hn; exact False.elim (by have g0 := hn; have g1 := p_v3; have g2 := p_v4; have g3 := i_rg v2; have g4 := i_rg v3; have g5 := i_rg v4; omega)
  | succ n ih =>
    intro v2 v3 v4 s hJ p_v3 p_v4 hm_6 hn
    unfold f_X4_reachedFrom_b15
    refine oq_if (fun c1 => ?_) (fun c1 => ?_)
    · exact hk_6 _ _ _ hJ (by have f0 := i_add (v3) ((1 : Int32)); have f1 := p_v3; have f2 := i_rg v3; have f3 : (1 : Int32).toInt = 1 := rfl; omega) (by have g0 := i_add (v3) ((1 : Int32)); have g1 := i_rg v2; have g2 := p_v3; have g3 := i_rg v3; have g4 : (1 : Int32).toInt = 1 := rfl; have g5 := hm_6; omega)
    · refine oq_c (inr_of (by have f0 := p_v4; have f1 := i_rg v4; have f2 := i_nle c1; have f3 := j_rd hJ 25 15 0 4 rfl; omega)) ?_
      refine oq_b (h_X11_has _ _ hJ.1 (by have f0 := j_rd hJ 35 v4.toNatClampNeg 0 7 rfl; omega)) (fun r3 s4 hs4 => ?_)
      have js4 : JC 0 s0 s4 := j_call hJ hs4.1 rfl
      refine oq_if (fun c2 => ?_) (fun c2 => ?_)
      · exact ih _ _ _ _ js4 (by have f0 := p_v3; have f1 := i_rg v3; omega) (by have f0 := i_add (v4) ((1 : Int32)); have f1 := p_v4; have f2 := i_rg v4; have f3 : (1 : Int32).toInt = 1 := rfl; have f4 := i_nle c1; have f5 := j_rd hJ 25 15 0 4 rfl; omega) (by have g0 := i_add (v4) ((1 : Int32)); have g1 := i_rg v2; have g2 := p_v3; have g3 := i_rg v3; have g4 := p_v4; have g5 := i_rg v4; have g6 : (1 : Int32).toInt = 1 := rfl; have g7 := i_nle c1; have g8 := j_rd hJ 25 15 0 4 rfl; have g9 := hm_6; omega) (by have g0 := i_add (v4) ((1 : Int32)); have g1 := i_rg v2; have g2 := p_v3; have g3 := i_rg v3; have g4 := p_v4; have g5 := i_rg v4; have g6 : (1 : Int32).toInt = 1 := rfl; have g7 := i_nle c1; have g8 := j_rd hJ 25 15 0 4 rfl; have g9 := hn; omega)
      · refine oq_n (fun x5 ex5 => ?_)
        exact ih _ _ _ _ js4 (by have f0 := p_v3; have f1 := i_rg v3; omega) (by have f0 := i_add (v4) ((1 : Int32)); have f1 := p_v4; have f2 := i_rg v4; have f3 : (1 : Int32).toInt = 1 := rfl; have f4 := i_nle c1; have f5 := j_rd hJ 25 15 0 4 rfl; omega) (by have g0 := i_add (v4) ((1 : Int32)); have g1 := i_eq ex5; have g2 := i_and (s4.1 36 v4.toNatClampNeg) ((31 : Int32)) (by decide); have g3 := i_sh (s4.1 36 v4.toNatClampNeg) (by have f0 := j_rd js4 36 v4.toNatClampNeg 0 7 rfl; have f1 : (s4.1 36 v4.toNatClampNeg).toInt = (s.1 36 v4.toNatClampNeg).toInt := j_fr hs4.1 36 v4.toNatClampNeg 36 rfl rfl; have f2 := j_rd hJ 36 v4.toNatClampNeg 0 7 rfl; omega); have g4 := i_rg x5; have g5 := p_v3; have g6 := i_rg v3; have g7 := p_v4; have g8 := i_rg v4; have g9 : (1 : Int32).toInt = 1 := rfl; have g10 := i_rg v2; have g11 := j_rd js4 36 v4.toNatClampNeg 0 7 rfl; have g12 : (s4.1 36 v4.toNatClampNeg).toInt = (s.1 36 v4.toNatClampNeg).toInt := j_fr hs4.1 36 v4.toNatClampNeg 36 rfl rfl; have g13 : (31 : Int32).toInt = 31 := rfl; have g14 := j_rd hJ 36 v4.toNatClampNeg 0 7 rfl; have g15 := i_nle c1; have g16 := j_rd hJ 25 15 0 4 rfl; have g17 := hm_6; omega) (by have g0 := i_add (v4) ((1 : Int32)); have g1 := i_eq ex5; have g2 := i_and (s4.1 36 v4.toNatClampNeg) ((31 : Int32)) (by decide); have g3 := i_sh (s4.1 36 v4.toNatClampNeg) (by have f0 := j_rd js4 36 v4.toNatClampNeg 0 7 rfl; have f1 : (s4.1 36 v4.toNatClampNeg).toInt = (s.1 36 v4.toNatClampNeg).toInt := j_fr hs4.1 36 v4.toNatClampNeg 36 rfl rfl; have f2 := j_rd hJ 36 v4.toNatClampNeg 0 7 rfl; omega); have g4 := i_rg x5; have g5 := p_v3; have g6 := i_rg v3; have g7 := p_v4; have g8 := i_rg v4; have g9 : (1 : Int32).toInt = 1 := rfl; have g10 := i_rg v2; have g11 := j_rd js4 36 v4.toNatClampNeg 0 7 rfl; have g12 : (s4.1 36 v4.toNatClampNeg).toInt = (s.1 36 v4.toNatClampNeg).toInt := j_fr hs4.1 36 v4.toNatClampNeg 36 rfl rfl; have g13 : (31 : Int32).toInt = 31 := rfl; have g14 := j_rd hJ 36 v4.toNatClampNeg 0 7 rfl; have g15 := i_nle c1; have g16 := j_rd hJ 25 15 0 4 rfl; have g17 := hn; omega)
theorem h_X4_reachedFrom_b6 {s0 : Sg} (n : Nat) : ∀ (v2 : Int32) (v3 : Int32) (s : Sg), JC 0 s0 s → 0 ≤ v3.toInt ∧ v3.toInt ≤ 8 → 8 - v3.toInt < (n : Int) → OQ (f_X4_reachedFrom_b6 n v2 v3 s) (fun r9 s9 => JC 0 s0 s9 ∧ True ∧ (r9 = 0 → True) ∧ (¬ r9 = 0 → True)) := by
  induction n with
  | zero => intro v2 v3 s hJ p_v3 hn; exact False.elim (by have g0 := hn; have g1 := p_v3; have g2 := i_rg v2; have g3 := i_rg v3; omega)
  | succ n ih =>
    intro v2 v3 s hJ p_v3 hn
    unfold f_X4_reachedFrom_b6
    refine oq_if (fun c1 => ?_) (fun c1 => ?_)
    · exact ⟨hJ, trivial, fun _ => trivial, fun _ => trivial⟩
    · exact h_X4_reachedFrom_b15 _ n ih BIG _ _ _ _ hJ (by have f0 := p_v3; have f1 := i_rg v3; have f2 := i_nle c1; have f3 : (8 : Int32).toInt = 8 := rfl; omega) (by have f0 : (0 : Int32).toInt = 0 := rfl; omega) (by have g0 := i_rg v2; have g1 := p_v3; have g2 := i_rg v3; have g3 : (0 : Int32).toInt = 0 := rfl; have g4 := i_nle c1; have g5 : (8 : Int32).toInt = 8 := rfl; have g6 := hn; omega) (by have g0 := i_rg v2; have g1 := p_v3; have g2 := i_rg v3; have g3 : (0 : Int32).toInt = 0 := rfl; have g4 := i_nle c1; have g5 : (8 : Int32).toInt = 8 := rfl; have g6 : BIG = 4294967296 := rfl; omega)
theorem h_X4_reachedFrom (a1 : Int32) {s : Sg} (hR : Rg rC s) (p_a1 : 0 ≤ a1.toInt ∧ a1.toInt ≤ 7) : OQ (f_X4_reachedFrom a1 s) (fun r9 s9 => JC 0 s s9 ∧ True ∧ (r9 = 0 → True) ∧ (¬ r9 = 0 → True)) := by
  have hJ : JC 0 s s := j_refl hR
  unfold f_X4_reachedFrom
  refine oq_n (fun x1 ex1 => ?_)
  exact h_X4_reachedFrom_b6 BIG _ _ _ hJ (by have f0 : (0 : Int32).toInt = 0 := rfl; omega) (by have g0 := i_eq ex1; have g1 := i_and (a1) ((31 : Int32)) (by decide); have g2 := i_sh (a1) (by have f0 := p_a1; have f1 := i_rg a1; omega); have g3 := i_rg x1; have g4 : (0 : Int32).toInt = 0 := rfl; have g5 : (1 : Int32).toInt = 1 := rfl; have g6 := p_a1; have g7 := i_rg a1; have g8 : (31 : Int32).toInt = 31 := rfl; have g9 : BIG = 4294967296 := rfl; omega)
theorem h_X11_reaches (a1 : Int32) {s : Sg} (hR : Rg rC s) : OQ (f_X11_reaches a1 s) (fun r9 s9 => JC 47890485652059026823698344598447161988085597568237568 s s9 ∧ True ∧ (r9 = 0 → 0 ≤ (a1).toInt ∧ (a1).toInt ≤ 7) ∧ (¬ r9 = 0 → True)) := by
  have hJ : JC 47890485652059026823698344598447161988085597568237568 s s := j_refl hR
  unfold f_X11_reaches
  refine oq_b (h_X11_whyNoStep _ _ hJ.1 (by have f0 : (1 : Int32).toInt = 1 := rfl; omega)) (fun r1 s2 hs2 => ?_)
  have js2 : JC 47890485652059026823698344598447161988085597568237568 s s2 := j_call hJ hs2.1 rfl
  refine oq_if (fun c1 => ?_) (fun c1 => ?_)
  · refine oq_b (h_X4_reachedFrom _ js2.1 (by have f0 := i_rg a1; have f1 := (hs2.2.2.1 c1).1; have f2 := (hs2.2.2.1 c1).2.1; have f3 := (hs2.2.2.1 c1).2.2; have f4 : (0 : Int32).toInt = 0 := rfl; have f5 : (7 : Int32).toInt = 7 := rfl; have f6 : (1 : Int32).toInt = 1 := rfl; omega)) (fun r3 s4 hs4 => ?_)
    have js4 : JC 47890485652059026823698344598447161988085597568237568 s s4 := j_call js2 hs4.1 rfl
    refine oq_b (h_X11_answer _ js4.1) (fun r5 s6 hs6 => ?_)
    have js6 : JC 47890485652059026823698344598447161988085597568237568 s s6 := j_call js4 hs6.1 rfl
    exact ⟨js6, trivial, fun w9 => ⟨(by have f0 : (0 : Int32).toInt = 0 := rfl; have f1 := i_rg a1; have f2 := (hs2.2.2.1 c1).1; have f3 := (hs2.2.2.1 c1).2.1; have f4 := (hs2.2.2.1 c1).2.2; have f5 : (7 : Int32).toInt = 7 := rfl; have f6 : (1 : Int32).toInt = 1 := rfl; omega), (by have f0 := i_rg a1; have f1 : (7 : Int32).toInt = 7 := rfl; have f2 := (hs2.2.2.1 c1).1; have f3 := (hs2.2.2.1 c1).2.1; have f4 := (hs2.2.2.1 c1).2.2; have f5 : (0 : Int32).toInt = 0 := rfl; have f6 : (1 : Int32).toInt = 1 := rfl; omega)⟩, fun _ => trivial⟩
  · refine oq_b (h_X11_refuse _ js2.1 (by have f0 := hs2.2.1; have f1 := i_rg r1; have f2 := i_ne c1; have f3 : (0 : Int32).toInt = 0 := rfl; omega)) (fun r7 s8 hs8 => ?_)
    have js8 : JC 47890485652059026823698344598447161988085597568237568 s s8 := j_call js2 hs8.1 rfl
    exact ⟨js8, trivial, fun w9 => False.elim (by have f0 := hs8.2.1; have f1 := i_rg r7; have f2 := i_eq w9; have f3 : (0 : Int32).toInt = 0 := rfl; omega), fun _ => trivial⟩
theorem h_X4_joinedTo_b15 {s0 : Sg} (k_6 : Int32 → Int32 → Sg → Option (Int32 × Sg)) (m_6 : Nat) (hk_6 : ∀ (v2 : Int32) (v3 : Int32) (s : Sg), JC 0 s0 s → 0 ≤ v3.toInt ∧ v3.toInt ≤ 8 → 8 - v3.toInt < (m_6 : Int) → OQ (k_6 v2 v3 s) (fun r9 s9 => JC 0 s0 s9 ∧ True ∧ (r9 = 0 → True) ∧ (¬ r9 = 0 → True))) (n : Nat) : ∀ (v2 : Int32) (v3 : Int32) (v4 : Int32) (s : Sg), JC 0 s0 s → 0 ≤ v3.toInt ∧ v3.toInt ≤ 7 → 0 ≤ v4.toInt ∧ v4.toInt ≤ 8 → 8 - v3.toInt < (m_6 : Int) + 1 → 8 - v4.toInt < (n : Int) → OQ (f_X4_joinedTo_b15 k_6 n v2 v3 v4 s) (fun r9 s9 => JC 0 s0 s9 ∧ True ∧ (r9 = 0 → True) ∧ (¬ r9 = 0 → True)) := by
  induction n with
  | zero => intro v2 v3 v4 s hJ p_v3 p_v4 hm_6 hn; exact False.elim (by have g0 := hn; have g1 := p_v3; have g2 := p_v4; have g3 := i_rg v2; have g4 := i_rg v3; have g5 := i_rg v4; omega)
  | succ n ih =>
    intro v2 v3 v4 s hJ p_v3 p_v4 hm_6 hn
    unfold f_X4_joinedTo_b15
    refine oq_if (fun c1 => ?_) (fun c1 => ?_)
    · exact hk_6 _ _ _ hJ (by have f0 := i_add (v3) ((1 : Int32)); have f1 := p_v3; have f2 := i_rg v3; have f3 : (1 : Int32).toInt = 1 := rfl; omega) (by have g0 := i_add (v3) ((1 : Int32)); have g1 := i_rg v2; have g2 := p_v3; have g3 := i_rg v3; have g4 : (1 : Int32).toInt = 1 := rfl; have g5 := hm_6; omega)
    · refine oq_c (inr_of (by have f0 := p_v4; have f1 := i_rg v4; have f2 := i_nle c1; have f3 := j_rd hJ 25 13 0 8 rfl; omega)) ?_
      refine oq_if (fun c2 => ?_) (fun c2 => ?_)
      · exact ih _ _ _ _ hJ (by have f0 := p_v3; have f1 := i_rg v3; omega) (by have f0 := i_add (v4) ((1 : Int32)); have f1 := p_v4; have f2 := i_rg v4; have f3 : (1 : Int32).toInt = 1 := rfl; have f4 := i_nle c1; have f5 := j_rd hJ 25 13 0 8 rfl; omega) (by have g0 := i_add (v4) ((1 : Int32)); have g1 := i_rg v2; have g2 := p_v3; have g3 := i_rg v3; have g4 := p_v4; have g5 := i_rg v4; have g6 : (1 : Int32).toInt = 1 := rfl; have g7 := i_nle c1; have g8 := i_eq c2; have g9 := j_rd hJ 25 13 0 8 rfl; have g10 := i_rg (s.1 34 v4.toNatClampNeg); have g11 : (0 : Int32).toInt = 0 := rfl; have g12 := hm_6; omega) (by have g0 := i_add (v4) ((1 : Int32)); have g1 := i_rg v2; have g2 := p_v3; have g3 := i_rg v3; have g4 := p_v4; have g5 := i_rg v4; have g6 : (1 : Int32).toInt = 1 := rfl; have g7 := i_nle c1; have g8 := i_eq c2; have g9 := j_rd hJ 25 13 0 8 rfl; have g10 := i_rg (s.1 34 v4.toNatClampNeg); have g11 : (0 : Int32).toInt = 0 := rfl; have g12 := hn; omega)
      · refine oq_n (fun x3 ex3 => ?_)
        exact ih _ _ _ _ hJ (by have f0 := p_v3; have f1 := i_rg v3; omega) (by have f0 := i_add (v4) ((1 : Int32)); have f1 := p_v4; have f2 := i_rg v4; have f3 : (1 : Int32).toInt = 1 := rfl; have f4 := i_nle c1; have f5 := j_rd hJ 25 13 0 8 rfl; omega) (by have g0 := i_add (v4) ((1 : Int32)); have g1 := i_eq ex3; have g2 := i_rg x3; have g3 := p_v3; have g4 := i_rg v3; have g5 := p_v4; have g6 := i_rg v4; have g7 : (1 : Int32).toInt = 1 := rfl; have g8 := i_rg v2; have g9 := i_rg (s.1 34 v4.toNatClampNeg); have g10 := i_nle c1; have g11 := i_ne c2; have g12 := j_rd hJ 25 13 0 8 rfl; have g13 : (0 : Int32).toInt = 0 := rfl; have g14 := hm_6; omega) (by have g0 := i_add (v4) ((1 : Int32)); have g1 := i_eq ex3; have g2 := i_rg x3; have g3 := p_v3; have g4 := i_rg v3; have g5 := p_v4; have g6 := i_rg v4; have g7 : (1 : Int32).toInt = 1 := rfl; have g8 := i_rg v2; have g9 := i_rg (s.1 34 v4.toNatClampNeg); have g10 := i_nle c1; have g11 := i_ne c2; have g12 := j_rd hJ 25 13 0 8 rfl; have g13 : (0 : Int32).toInt = 0 := rfl; have g14 := hn; omega)
theorem h_X4_joinedTo_b6 {s0 : Sg} (n : Nat) : ∀ (v2 : Int32) (v3 : Int32) (s : Sg), JC 0 s0 s → 0 ≤ v3.toInt ∧ v3.toInt ≤ 8 → 8 - v3.toInt < (n : Int) → OQ (f_X4_joinedTo_b6 n v2 v3 s) (fun r9 s9 => JC 0 s0 s9 ∧ True ∧ (r9 = 0 → True) ∧ (¬ r9 = 0 → True)) := by
  induction n with
  | zero => intro v2 v3 s hJ p_v3 hn; exact False.elim (by have g0 := hn; have g1 := p_v3; have g2 := i_rg v2; have g3 := i_rg v3; omega)
  | succ n ih =>
    intro v2 v3 s hJ p_v3 hn
    unfold f_X4_joinedTo_b6
    refine oq_if (fun c1 => ?_) (fun c1 => ?_)
    · exact ⟨hJ, trivial, fun _ => trivial, fun _ => trivial⟩
    · exact h_X4_joinedTo_b15 _ n ih BIG _ _ _ _ hJ (by have f0 := p_v3; have f1 := i_rg v3; have f2 := i_nle c1; have f3 : (8 : Int32).toInt = 8 := rfl; omega) (by have f0 : (0 : Int32).toInt = 0 := rfl; omega) (by have g0 := i_rg v2; have g1 := p_v3; have g2 := i_rg v3; have g3 : (0 : Int32).toInt = 0 := rfl; have g4 := i_nle c1; have g5 : (8 : Int32).toInt = 8 := rfl; have g6 := hn; omega) (by have g0 := i_rg v2; have g1 := p_v3; have g2 := i_rg v3; have g3 : (0 : Int32).toInt = 0 := rfl; have g4 := i_nle c1; have g5 : (8 : Int32).toInt = 8 := rfl; have g6 : BIG = 4294967296 := rfl; omega)
theorem h_X4_joinedTo (a1 : Int32) {s : Sg} (hR : Rg rC s) (p_a1 : 0 ≤ a1.toInt ∧ a1.toInt ≤ 7) : OQ (f_X4_joinedTo a1 s) (fun r9 s9 => JC 0 s s9 ∧ True ∧ (r9 = 0 → True) ∧ (¬ r9 = 0 → True)) := by
  have hJ : JC 0 s s := j_refl hR
  unfold f_X4_joinedTo
  refine oq_n (fun x1 ex1 => ?_)
  exact h_X4_joinedTo_b6 BIG _ _ _ hJ (by have f0 : (0 : Int32).toInt = 0 := rfl; omega) (by have g0 := i_eq ex1; have g1 := i_and (a1) ((31 : Int32)) (by decide); have g2 := i_sh (a1) (by have f0 := p_a1; have f1 := i_rg a1; omega); have g3 := i_rg x1; have g4 : (0 : Int32).toInt = 0 := rfl; have g5 : (1 : Int32).toInt = 1 := rfl; have g6 := p_a1; have g7 := i_rg a1; have g8 : (31 : Int32).toInt = 31 := rfl; have g9 : BIG = 4294967296 := rfl; omega)
theorem h_X11_chain (a1 : Int32) {s : Sg} (hR : Rg rC s) : OQ (f_X11_chain a1 s) (fun r9 s9 => JC 47890485652059026823698344598447161988085597568237568 s s9 ∧ True ∧ (r9 = 0 → 0 ≤ (a1).toInt ∧ (a1).toInt ≤ 7) ∧ (¬ r9 = 0 → True)) := by
  have hJ : JC 47890485652059026823698344598447161988085597568237568 s s := j_refl hR
  unfold f_X11_chain
  refine oq_b (h_X11_isQuarrel _ hJ.1) (fun r1 s2 hs2 => ?_)
  have js2 : JC 47890485652059026823698344598447161988085597568237568 s s2 := j_call hJ hs2.1 rfl
  refine oq_if (fun c1 => ?_) (fun c1 => ?_)
  · refine oq_b (h_X11_refuse _ js2.1 (by have f0 : (1 : Int32).toInt = 1 := rfl; omega)) (fun r3 s4 hs4 => ?_)
    have js4 : JC 47890485652059026823698344598447161988085597568237568 s s4 := j_call js2 hs4.1 rfl
    exact ⟨js4, trivial, fun w9 => False.elim (by have f0 := hs4.2.1; have f1 := i_rg r3; have f2 := i_eq w9; have f3 : (0 : Int32).toInt = 0 := rfl; omega), fun _ => trivial⟩
  · refine oq_b (h_X4_joinedTo _ js2.1 (by have f0 := i_rg a1; have f1 := (hs2.2.2.2 c1).1; have f2 := (hs2.2.2.2 c1).2; have f3 : (0 : Int32).toInt = 0 := rfl; have f4 : (7 : Int32).toInt = 7 := rfl; omega)) (fun r5 s6 hs6 => ?_)
    have js6 : JC 47890485652059026823698344598447161988085597568237568 s s6 := j_call js2 hs6.1 rfl
    refine oq_b (h_X11_answer _ js6.1) (fun r7 s8 hs8 => ?_)
    have js8 : JC 47890485652059026823698344598447161988085597568237568 s s8 := j_call js6 hs8.1 rfl
    exact ⟨js8, trivial, fun w9 => ⟨(by have f0 : (0 : Int32).toInt = 0 := rfl; have f1 := i_rg a1; have f2 := (hs2.2.2.2 c1).1; have f3 := (hs2.2.2.2 c1).2; have f4 : (7 : Int32).toInt = 7 := rfl; omega), (by have f0 := i_rg a1; have f1 : (7 : Int32).toInt = 7 := rfl; have f2 := (hs2.2.2.2 c1).1; have f3 := (hs2.2.2.2 c1).2; have f4 : (0 : Int32).toInt = 0 := rfl; omega)⟩, fun _ => trivial⟩
theorem h_X11_copyRow_67_40  {s : Sg} (hR : Rg rC s) : OQ (f_X11_copyRow_67_40  s) (fun _ s9 => JC 147573952589676412928 s s9 ∧ True) := by
  have hJ : JC 147573952589676412928 s s := j_refl hR
  unfold f_X11_copyRow_67_40
  refine oq_c ⟨(nlt_of (by have f0 : (0 : Int32).toInt = 0 := rfl; omega)), (nlt_of (by have f0 : (0 : Int32).toInt = 0 := rfl; omega)), (nlt_of (by have f0 := ite_lt ((8 : Int32)) ((8 : Int32)) ((8 : Int32)) ((8 : Int32)); have f1 : (8 : Int32).toInt = 8 := rfl; omega)), (by have f0 := ite_lt ((8 : Int32)) ((8 : Int32)) ((8 : Int32)) ((8 : Int32)); have f1 : (8 : Int32).toInt = 8 := rfl; have f2 := cl_nat (if 8 < (8 : Int32) then 8 else (8 : Int32)); omega), (by have f0 := ite_lt ((8 : Int32)) ((8 : Int32)) ((8 : Int32)) ((8 : Int32)); have f1 : (8 : Int32).toInt = 8 := rfl; have f2 := cl_nat (if 8 < (8 : Int32) then 8 else (8 : Int32)); omega)⟩ ?_
  exact ⟨(j_cp hJ (fun _ _ => rfl) 67 (fun _ => rfl) rfl), trivial⟩
theorem h_X11_copyRow_68_41  {s : Sg} (hR : Rg rC s) : OQ (f_X11_copyRow_68_41  s) (fun _ s9 => JC 295147905179352825856 s s9 ∧ True) := by
  have hJ : JC 295147905179352825856 s s := j_refl hR
  unfold f_X11_copyRow_68_41
  refine oq_c ⟨(nlt_of (by have f0 : (0 : Int32).toInt = 0 := rfl; omega)), (nlt_of (by have f0 : (0 : Int32).toInt = 0 := rfl; omega)), (nlt_of (by have f0 := ite_lt ((8 : Int32)) ((8 : Int32)) ((8 : Int32)) ((8 : Int32)); have f1 : (8 : Int32).toInt = 8 := rfl; omega)), (by have f0 := ite_lt ((8 : Int32)) ((8 : Int32)) ((8 : Int32)) ((8 : Int32)); have f1 : (8 : Int32).toInt = 8 := rfl; have f2 := cl_nat (if 8 < (8 : Int32) then 8 else (8 : Int32)); omega), (by have f0 := ite_lt ((8 : Int32)) ((8 : Int32)) ((8 : Int32)) ((8 : Int32)); have f1 : (8 : Int32).toInt = 8 := rfl; have f2 := cl_nat (if 8 < (8 : Int32) then 8 else (8 : Int32)); omega)⟩ ?_
  exact ⟨(j_cp hJ (fun _ _ => rfl) 68 (fun _ => rfl) rfl), trivial⟩
theorem h_X11_copyRow_69_42  {s : Sg} (hR : Rg rC s) : OQ (f_X11_copyRow_69_42  s) (fun _ s9 => JC 590295810358705651712 s s9 ∧ True) := by
  have hJ : JC 590295810358705651712 s s := j_refl hR
  unfold f_X11_copyRow_69_42
  refine oq_c ⟨(nlt_of (by have f0 : (0 : Int32).toInt = 0 := rfl; omega)), (nlt_of (by have f0 : (0 : Int32).toInt = 0 := rfl; omega)), (nlt_of (by have f0 := ite_lt ((8 : Int32)) ((8 : Int32)) ((8 : Int32)) ((8 : Int32)); have f1 : (8 : Int32).toInt = 8 := rfl; omega)), (by have f0 := ite_lt ((8 : Int32)) ((8 : Int32)) ((8 : Int32)) ((8 : Int32)); have f1 : (8 : Int32).toInt = 8 := rfl; have f2 := cl_nat (if 8 < (8 : Int32) then 8 else (8 : Int32)); omega), (by have f0 := ite_lt ((8 : Int32)) ((8 : Int32)) ((8 : Int32)) ((8 : Int32)); have f1 : (8 : Int32).toInt = 8 := rfl; have f2 := cl_nat (if 8 < (8 : Int32) then 8 else (8 : Int32)); omega)⟩ ?_
  exact ⟨(j_cp hJ (fun _ _ => rfl) 69 (fun _ => rfl) rfl), trivial⟩
theorem h_X11_copyRow_70_43  {s : Sg} (hR : Rg rC s) : OQ (f_X11_copyRow_70_43  s) (fun _ s9 => JC 1180591620717411303424 s s9 ∧ True) := by
  have hJ : JC 1180591620717411303424 s s := j_refl hR
  unfold f_X11_copyRow_70_43
  refine oq_c ⟨(nlt_of (by have f0 : (0 : Int32).toInt = 0 := rfl; omega)), (nlt_of (by have f0 : (0 : Int32).toInt = 0 := rfl; omega)), (nlt_of (by have f0 := ite_lt ((8 : Int32)) ((8 : Int32)) ((8 : Int32)) ((8 : Int32)); have f1 : (8 : Int32).toInt = 8 := rfl; omega)), (by have f0 := ite_lt ((8 : Int32)) ((8 : Int32)) ((8 : Int32)) ((8 : Int32)); have f1 : (8 : Int32).toInt = 8 := rfl; have f2 := cl_nat (if 8 < (8 : Int32) then 8 else (8 : Int32)); omega), (by have f0 := ite_lt ((8 : Int32)) ((8 : Int32)) ((8 : Int32)) ((8 : Int32)); have f1 : (8 : Int32).toInt = 8 := rfl; have f2 := cl_nat (if 8 < (8 : Int32) then 8 else (8 : Int32)); omega)⟩ ?_
  exact ⟨(j_cp hJ (fun _ _ => rfl) 70 (fun _ => rfl) rfl), trivial⟩
theorem h_X11_copyRow_71_44  {s : Sg} (hR : Rg rC s) : OQ (f_X11_copyRow_71_44  s) (fun _ s9 => JC 2361183241434822606848 s s9 ∧ True) := by
  have hJ : JC 2361183241434822606848 s s := j_refl hR
  unfold f_X11_copyRow_71_44
  refine oq_c ⟨(nlt_of (by have f0 : (0 : Int32).toInt = 0 := rfl; omega)), (nlt_of (by have f0 : (0 : Int32).toInt = 0 := rfl; omega)), (nlt_of (by have f0 := ite_lt ((4 : Int32)) ((4 : Int32)) ((4 : Int32)) ((4 : Int32)); have f1 : (4 : Int32).toInt = 4 := rfl; omega)), (by have f0 := ite_lt ((4 : Int32)) ((4 : Int32)) ((4 : Int32)) ((4 : Int32)); have f1 : (4 : Int32).toInt = 4 := rfl; have f2 := cl_nat (if 4 < (4 : Int32) then 4 else (4 : Int32)); omega), (by have f0 := ite_lt ((4 : Int32)) ((4 : Int32)) ((4 : Int32)) ((4 : Int32)); have f1 : (4 : Int32).toInt = 4 := rfl; have f2 := cl_nat (if 4 < (4 : Int32) then 4 else (4 : Int32)); omega)⟩ ?_
  exact ⟨(j_cp hJ (fun _ _ => rfl) 71 (fun _ => rfl) rfl), trivial⟩
theorem h_X2_copyFrom_26_53  {s : Sg} (hR : Rg rC s) : OQ (f_X2_copyFrom_26_53  s) (fun _ s9 => JC 4574801537479223541760 s s9 ∧ True) := by
  have hJ : JC 4574801537479223541760 s s := j_refl hR
  unfold f_X2_copyFrom_26_53
  refine oq_b (h_X11_copyRow_67_40  hJ.1) (fun u1 s2 hs2 => ?_)
  have js2 : JC 4574801537479223541760 s s2 := j_call hJ hs2.1 rfl
  refine oq_b (h_X11_copyRow_68_41  js2.1) (fun u2 s4 hs4 => ?_)
  have js4 : JC 4574801537479223541760 s s4 := j_call js2 hs4.1 rfl
  refine oq_b (h_X11_copyRow_69_42  js4.1) (fun u3 s6 hs6 => ?_)
  have js6 : JC 4574801537479223541760 s s6 := j_call js4 hs6.1 rfl
  refine oq_b (h_X11_copyRow_70_43  js6.1) (fun u4 s8 hs8 => ?_)
  have js8 : JC 4574801537479223541760 s s8 := j_call js6 hs8.1 rfl
  refine oq_b (h_X11_copyRow_71_44  js8.1) (fun u5 s10 hs10 => ?_)
  have js10 : JC 4574801537479223541760 s s10 := j_call js8 hs10.1 rfl
  refine oq_n (fun s11 es11 => ?_)
  have js11 : JC 4574801537479223541760 s s11 := by rw [es11]; exact (j_wf (j_wf js10 rfl 53 rfl rfl) rfl 53 rfl rfl)
  refine oq_c (b01_of (by have f0 := j_rd js11 26 7 0 1 rfl; omega)) ?_
  refine oq_n (fun s13 es13 => ?_)
  have js13 : JC 4574801537479223541760 s s13 := by rw [es13]; exact (j_wf (j_wr 0 1 js11 rfl 53 rfl rfl (by have f0 := j_rd js11 26 7 0 1 rfl; omega)) rfl 53 rfl rfl)
  refine oq_n (fun s14 es14 => ?_)
  have js14 : JC 4574801537479223541760 s s14 := by rw [es14]; exact (j_wf (j_wf js13 rfl 53 rfl rfl) rfl 53 rfl rfl)
  refine oq_n (fun s15 es15 => ?_)
  have js15 : JC 4574801537479223541760 s s15 := by rw [es15]; exact (j_wf (j_wf js14 rfl 53 rfl rfl) rfl 53 rfl rfl)
  exact ⟨js15, trivial⟩
theorem h_X2_carry_53 (a1 : Int32) (a2 : Int32) (a3 : Int32) {s : Sg} (hR : Rg rC s) (p_a1 : 0 ≤ a1.toInt ∧ a1.toInt ≤ 7) (p_a2 : 0 ≤ a2.toInt ∧ a2.toInt ≤ 7) : OQ (f_X2_carry_53 a1 a2 a3 s) (fun r9 s9 => JC 442721857769029238784 s s9 ∧ True ∧ (r9 = 0 → True) ∧ (¬ r9 = 0 → True)) := by
  have hJ : JC 442721857769029238784 s s := j_refl hR
  unfold f_X2_carry_53
  refine oq_c (inr_of (by have f0 := p_a1; have f1 := i_rg a1; omega)) ?_
  refine oq_n (fun x2 ex2 => ?_)
  refine oq_n (fun x3 ex3 => ?_)
  refine oq_n (fun s4 es4 => ?_)
  have js4 : JC 442721857769029238784 s s4 := by rw [es4]; exact (j_wf hJ rfl 67 rfl rfl)
  refine oq_n (fun s5 es5 => ?_)
  have js5 : JC 442721857769029238784 s s5 := by rw [es5]; exact (j_wf js4 rfl 68 rfl rfl)
  refine oq_c (inr_of (by have f0 := p_a2; have f1 := i_rg a2; omega)) ?_
  refine oq_n (fun s7 es7 => ?_)
  have js7 : JC 442721857769029238784 s s7 := by rw [es7]; exact (j_wf js5 rfl 67 rfl rfl)
  refine oq_n (fun s8 es8 => ?_)
  have js8 : JC 442721857769029238784 s s8 := by rw [es8]; exact (j_wf js7 rfl 68 rfl rfl)
  exact ⟨js8, trivial, fun _ => trivial, fun _ => trivial⟩
theorem h_X2_sendCats_25_53_b2 {s0 : Sg} (n : Nat) : ∀ (v2 : Int32) (s : Sg), JC 442721857769029238784 s0 s → 0 ≤ v2.toInt ∧ v2.toInt ≤ 4 → 4 - v2.toInt < (n : Int) → OQ (f_X2_sendCats_25_53_b2 n v2 s) (fun _ s9 => JC 442721857769029238784 s0 s9 ∧ True) := by
  induction n with
  | zero => intro v2 s hJ p_v2 hn; exact False.elim (by have g0 := hn; have g1 := p_v2; have g2 := i_rg v2; omega)
  | succ n ih =>
    intro v2 s hJ p_v2 hn
    unfold f_X2_sendCats_25_53_b2
    refine oq_if (fun c1 => ?_) (fun c1 => ?_)
    · exact ⟨hJ, trivial⟩
    · refine oq_c (inr_of (by have f0 := p_v2; have f1 := i_rg v2; have f2 := i_nle c1; have f3 := j_rd hJ 25 15 0 4 rfl; omega)) ?_
      refine oq_c (inr_of (by have f0 := j_rd hJ 35 v2.toNatClampNeg 0 7 rfl; omega)) ?_
      refine oq_if (fun c2 => ?_) (fun c2 => ?_)
      · refine oq_b (h_X2_carry_53 _ _ _ hJ.1 (by have f0 := j_rd hJ 35 v2.toNatClampNeg 0 7 rfl; omega) (by have f0 := j_rd hJ 36 v2.toNatClampNeg 0 7 rfl; omega)) (fun r3 s4 hs4 => ?_)
        have js4 : JC 442721857769029238784 s0 s4 := j_call hJ hs4.1 rfl
        exact ih _ _ js4 (by have f0 := i_add (v2) ((1 : Int32)); have f1 := p_v2; have f2 := i_rg v2; have f3 : (1 : Int32).toInt = 1 := rfl; have f4 := i_nle c1; have f5 := j_rd hJ 25 15 0 4 rfl; omega) (by have g0 := i_add (v2) ((1 : Int32)); have g1 := p_v2; have g2 := i_rg v2; have g3 : (1 : Int32).toInt = 1 := rfl; have g4 := i_nle c1; have g5 := j_rd hJ 25 15 0 4 rfl; have g6 := hn; omega)
      · exact ih _ _ hJ (by have f0 := i_add (v2) ((1 : Int32)); have f1 := p_v2; have f2 := i_rg v2; have f3 : (1 : Int32).toInt = 1 := rfl; have f4 := i_nle c1; have f5 := j_rd hJ 25 15 0 4 rfl; omega) (by have g0 := i_add (v2) ((1 : Int32)); have g1 := p_v2; have g2 := i_rg v2; have g3 : (1 : Int32).toInt = 1 := rfl; have g4 := i_nle c1; have g5 := j_rd hJ 25 15 0 4 rfl; have g6 := hn; omega)
theorem h_X2_sendCats_25_53  {s : Sg} (hR : Rg rC s) : OQ (f_X2_sendCats_25_53  s) (fun _ s9 => JC 442721857769029238784 s s9 ∧ True) := by
  have hJ : JC 442721857769029238784 s s := j_refl hR
  unfold f_X2_sendCats_25_53
  exact h_X2_sendCats_25_53_b2 BIG _ _ hJ (by have f0 : (0 : Int32).toInt = 0 := rfl; omega) (by have g0 : (0 : Int32).toInt = 0 := rfl; have g1 : BIG = 4294967296 := rfl; omega)
theorem h_X2_meltSnow_25_53_b2 {s0 : Sg} (n : Nat) : ∀ (v2 : Int32) (s : Sg), JC 737878770147636805632 s0 s → 0 ≤ v2.toInt ∧ v2.toInt ≤ 8 → 8 - v2.toInt < (n : Int) → OQ (f_X2_meltSnow_25_53_b2 n v2 s) (fun _ s9 => JC 737878770147636805632 s0 s9 ∧ True) := by
  induction n with
  | zero => intro v2 s hJ p_v2 hn; exact False.elim (by have g0 := hn; have g1 := p_v2; have g2 := i_rg v2; omega)
  | succ n ih =>
    intro v2 s hJ p_v2 hn
    unfold f_X2_meltSnow_25_53_b2
    refine oq_if (fun c1 => ?_) (fun c1 => ?_)
    · exact ⟨hJ, trivial⟩
    · refine oq_c (inr_of (by have f0 := p_v2; have f1 := i_rg v2; have f2 := i_nle c1; have f3 := j_rd hJ 25 13 0 8 rfl; omega)) ?_
      refine oq_n (fun x2 ex2 => ?_)
      refine oq_n (fun s3 es3 => ?_)
      have js3 : JC 737878770147636805632 s0 s3 := by rw [es3]; exact (j_wf hJ rfl 67 rfl rfl)
      refine oq_n (fun s4 es4 => ?_)
      have js4 : JC 737878770147636805632 s0 s4 := by rw [es4]; exact (j_wf js3 rfl 69 rfl rfl)
      refine oq_n (fun s5 es5 => ?_)
      have js5 : JC 737878770147636805632 s0 s5 := by rw [es5]; exact (j_wf js4 rfl 53 rfl rfl)
      exact ih _ _ js5 (by have f0 := i_add (v2) ((1 : Int32)); have f1 := p_v2; have f2 := i_rg v2; have f3 : (1 : Int32).toInt = 1 := rfl; have f4 := i_nle c1; have f5 := j_rd hJ 25 13 0 8 rfl; omega) (by have g0 := i_add (v2) ((1 : Int32)); have g1 := p_v2; have g2 := i_rg v2; have g3 : (1 : Int32).toInt = 1 := rfl; have g4 := i_nle c1; have g5 := j_rd hJ 25 13 0 8 rfl; have g6 := hn; omega)
theorem h_X2_meltSnow_25_53  {s : Sg} (hR : Rg rC s) : OQ (f_X2_meltSnow_25_53  s) (fun _ s9 => JC 737878770147636805632 s s9 ∧ True) := by
  have hJ : JC 737878770147636805632 s s := j_refl hR
  unfold f_X2_meltSnow_25_53
  exact h_X2_meltSnow_25_53_b2 BIG _ _ hJ (by have f0 : (0 : Int32).toInt = 0 := rfl; omega) (by have g0 : (0 : Int32).toInt = 0 := rfl; have g1 : BIG = 4294967296 := rfl; omega)
theorem h_X2_lying_53 (a1 : Int32) {s : Sg} (hR : Rg rC s) (p_a1 : 0 ≤ a1.toInt ∧ a1.toInt ≤ 7) : OQ (f_X2_lying_53 a1 s) (fun r9 s9 => JC 0 s s9 ∧ True ∧ (r9 = 0 → True) ∧ (¬ r9 = 0 → True)) := by
  have hJ : JC 0 s s := j_refl hR
  unfold f_X2_lying_53
  refine oq_c (inr_of (by have f0 := p_a1; have f1 := i_rg a1; omega)) ?_
  exact ⟨hJ, trivial, fun _ => trivial, fun _ => trivial⟩
theorem h_X2_inSight_53 (a1 : Int32) {s : Sg} (hR : Rg rC s) (p_a1 : 0 ≤ a1.toInt ∧ a1.toInt ≤ 7) : OQ (f_X2_inSight_53 a1 s) (fun r9 s9 => JC 0 s s9 ∧ True ∧ (r9 = 0 → True) ∧ (¬ r9 = 0 → True)) := by
  have hJ : JC 0 s s := j_refl hR
  unfold f_X2_inSight_53
  refine oq_c (inr_of (by have f0 := p_a1; have f1 := i_rg a1; omega)) ?_
  refine oq_if (fun c1 => ?_) (fun c1 => ?_)
  · refine oq_b (h_X2_lying_53 _ hJ.1 (by have f0 := p_a1; have f1 := i_rg a1; omega)) (fun r2 s3 hs3 => ?_)
    have js3 : JC 0 s s3 := j_call hJ hs3.1 rfl
    exact ⟨js3, trivial, fun _ => trivial, fun _ => trivial⟩
  · exact ⟨hJ, trivial, fun _ => trivial, fun w9 => absurd rfl w9⟩
theorem h_X9_atPeace_53_25_b8 {s0 : Sg} (n : Nat) : ∀ (v2 : Int32) (v3 : Int32) (v4 : Int32) (s : Sg), JC 0 s0 s → (-1) ≤ v2.toInt ∧ v2.toInt ≤ (-1) → 0 ≤ v4.toInt ∧ v4.toInt ≤ 8 → 8 - v4.toInt < (n : Int) → OQ (f_X9_atPeace_53_25_b8 n v2 v3 v4 s) (fun r9 s9 => JC 0 s0 s9 ∧ True ∧ (r9 = 0 → True) ∧ (¬ r9 = 0 → True)) := by
  induction n with
  | zero => intro v2 v3 v4 s hJ p_v2 p_v4 hn; exact False.elim (by have g0 := hn; have g1 := p_v2; have g2 := p_v4; have g3 := i_rg v2; have g4 := i_rg v3; have g5 := i_rg v4; omega)
  | succ n ih =>
    intro v2 v3 v4 s hJ p_v2 p_v4 hn
    unfold f_X9_atPeace_53_25_b8
    refine oq_if (fun c1 => ?_) (fun c1 => ?_)
    · exact ⟨hJ, trivial, fun _ => trivial, fun _ => trivial⟩
    · refine oq_c (inr_of (by have f0 := p_v4; have f1 := i_rg v4; have f2 := i_nle c1; have f3 := j_rd hJ 25 13 0 8 rfl; omega)) ?_
      refine oq_b (h_X2_inSight_53 _ hJ.1 (by have f0 := p_v4; have f1 := i_rg v4; have f2 := i_nle c1; have f3 := j_rd hJ 25 13 0 8 rfl; omega)) (fun r4 s5 hs5 => ?_)
      have js5 : JC 0 s0 s5 := j_call hJ hs5.1 rfl
      refine oq_b (h_X9_contentAt_25 _ _ _ js5.1 (by have f0 := p_v4; have f1 := i_rg v4; have f2 := i_nle c1; have f3 := j_rd hJ 25 13 0 8 rfl; omega) (by have f0 := p_v2; have f1 := i_rg v2; omega)) (fun r6 s7 hs7 => ?_)
      have js7 : JC 0 s0 s7 := j_call js5 hs7.1 rfl
      refine oq_n (fun x8 ex8 => ?_)
      exact ih _ _ _ _ js7 (by have f0 := p_v2; have f1 := i_rg v2; omega) (by have f0 := i_add (v4) ((1 : Int32)); have f1 := p_v4; have f2 := i_rg v4; have f3 : (1 : Int32).toInt = 1 := rfl; have f4 := i_nle c1; have f5 := j_rd hJ 25 13 0 8 rfl; omega) (by have g0 := i_add (v4) ((1 : Int32)); have g1 := p_v2; have g2 := i_rg v2; have g3 := i_eq ex8; have g4 := i_rg x8; have g5 := p_v4; have g6 := i_rg v4; have g7 : (1 : Int32).toInt = 1 := rfl; have g8 := i_rg v3; have g9 := i_rg (s.1 34 v4.toNatClampNeg); have g10 : ((-1) : Int32).toInt = (-1) := rfl; have g11 := i_rg r6; have g12 := i_nle c1; have g13 := j_rd hJ 25 13 0 8 rfl; have g14 := hn; omega)
theorem h_X9_atPeace_53_25 (a2 : Int32) {s : Sg} (hR : Rg rC s) (p_a2 : (-1) ≤ a2.toInt ∧ a2.toInt ≤ (-1)) : OQ (f_X9_atPeace_53_25 a2 s) (fun r9 s9 => JC 0 s s9 ∧ True ∧ (r9 = 0 → True) ∧ (¬ r9 = 0 → True)) := by
  have hJ : JC 0 s s := j_refl hR
  unfold f_X9_atPeace_53_25
  refine oq_b (h_X4_allQuarrels  hJ.1) (fun r1 s2 hs2 => ?_)
  have js2 : JC 0 s s2 := j_call hJ hs2.1 rfl
  exact h_X9_atPeace_53_25_b8 BIG _ _ _ _ js2 (by have f0 := p_a2; have f1 := i_rg a2; omega) (by have f0 : (0 : Int32).toInt = 0 := rfl; omega) (by have g0 := p_a2; have g1 := i_rg a2; have g2 := hs2.2.1; have g3 := i_rg r1; have g4 : (0 : Int32).toInt = 0 := rfl; have g5 : BIG = 4294967296 := rfl; omega)
theorem h_X2_countWar_25_53_b2 {s0 : Sg} (n : Nat) : ∀ (v2 : Int32) (s : Sg), JC 1180591620717411303424 s0 s → 0 ≤ v2.toInt ∧ v2.toInt ≤ 8 → 8 - v2.toInt < (n : Int) → OQ (f_X2_countWar_25_53_b2 n v2 s) (fun _ s9 => JC 1180591620717411303424 s0 s9 ∧ True) := by
  induction n with
  | zero => intro v2 s hJ p_v2 hn; exact False.elim (by have g0 := hn; have g1 := p_v2; have g2 := i_rg v2; omega)
  | succ n ih =>
    intro v2 s hJ p_v2 hn
    unfold f_X2_countWar_25_53_b2
    refine oq_if (fun c1 => ?_) (fun c1 => ?_)
    · exact ⟨hJ, trivial⟩
    · refine oq_b (h_X11_has _ _ hJ.1 (by have f0 := p_v2; have f1 := i_rg v2; have f2 := i_nle c1; have f3 := j_rd hJ 25 14 0 8 rfl; omega)) (fun r1 s2 hs2 => ?_)
      have js2 : JC 1180591620717411303424 s0 s2 := j_call hJ hs2.1 rfl
      refine oq_if (fun c2 => ?_) (fun c2 => ?_)
      · refine oq_c (inr_of (by have f0 := p_v2; have f1 := i_rg v2; have f2 := i_nle c1; have f3 := j_rd hJ 25 14 0 8 rfl; omega)) ?_
        refine oq_n (fun s4 es4 => ?_)
        have js4 : JC 1180591620717411303424 s0 s4 := by rw [es4]; exact (j_wf js2 rfl 70 rfl rfl)
        exact ih _ _ js4 (by have f0 := i_add (v2) ((1 : Int32)); have f1 := p_v2; have f2 := i_rg v2; have f3 : (1 : Int32).toInt = 1 := rfl; have f4 := i_nle c1; have f5 := j_rd hJ 25 14 0 8 rfl; omega) (by have g0 := i_add (v2) ((1 : Int32)); have g1 := p_v2; have g2 := i_rg v2; have g3 : (1 : Int32).toInt = 1 := rfl; have g4 := i_nle c1; have g5 := j_rd hJ 25 14 0 8 rfl; have g6 := hn; omega)
      · exact ih _ _ js2 (by have f0 := i_add (v2) ((1 : Int32)); have f1 := p_v2; have f2 := i_rg v2; have f3 : (1 : Int32).toInt = 1 := rfl; have f4 := i_nle c1; have f5 := j_rd hJ 25 14 0 8 rfl; omega) (by have g0 := i_add (v2) ((1 : Int32)); have g1 := p_v2; have g2 := i_rg v2; have g3 : (1 : Int32).toInt = 1 := rfl; have g4 := i_nle c1; have g5 := j_rd hJ 25 14 0 8 rfl; have g6 := hn; omega)
theorem h_X2_countWar_25_53  {s : Sg} (hR : Rg rC s) : OQ (f_X2_countWar_25_53  s) (fun _ s9 => JC 1180591620717411303424 s s9 ∧ True) := by
  have hJ : JC 1180591620717411303424 s s := j_refl hR
  unfold f_X2_countWar_25_53
  exact h_X2_countWar_25_53_b2 BIG _ _ hJ (by have f0 : (0 : Int32).toInt = 0 := rfl; omega) (by have g0 : (0 : Int32).toInt = 0 := rfl; have g1 : BIG = 4294967296 := rfl; omega)
theorem h_X2_passNight_25_53_b35 {s0 : Sg} (t0 : Int32) (s : Sg) (hJ : JC 2213618296044400934912 s0 s) : OQ (f_X2_passNight_25_53_b35 t0 s) (fun _ s9 => JC 2213618296044400934912 s0 s9 ∧ True) := by
  unfold f_X2_passNight_25_53_b35
  refine oq_b (h_X2_countWar_25_53  ((j_wf hJ rfl 53 rfl rfl) : JC 2213618296044400934912 s0 (pI s 53 5 t0)).1) (fun u1 s8 hs8 => ?_)
  have js8 : JC 2213618296044400934912 s0 s8 := j_call ((j_wf hJ rfl 53 rfl rfl) : JC 2213618296044400934912 s0 (pI s 53 5 t0)) hs8.1 rfl
  refine oq_n (fun s9 es9 => ?_)
  have js9 : JC 2213618296044400934912 s0 s9 := by rw [es9]; exact (j_wf js8 rfl 53 rfl rfl)
  exact ⟨(j_wr 0 1 js9 rfl 53 rfl rfl (by have f0 : (0 : Int32).toInt = 0 := rfl; omega)), trivial⟩
theorem h_X2_passNight_25_53  {s : Sg} (hR : Rg rC s) : OQ (f_X2_passNight_25_53  s) (fun _ s9 => JC 2213618296044400934912 s s9 ∧ True) := by
  have hJ : JC 2213618296044400934912 s s := j_refl hR
  unfold f_X2_passNight_25_53
  refine oq_b (h_X2_sendCats_25_53  hJ.1) (fun u1 s2 hs2 => ?_)
  have js2 : JC 2213618296044400934912 s s2 := j_call hJ hs2.1 rfl
  refine oq_b (h_X2_meltSnow_25_53  js2.1) (fun u2 s4 hs4 => ?_)
  have js4 : JC 2213618296044400934912 s s4 := j_call js2 hs4.1 rfl
  refine oq_b (h_X9_atPeace_53_25 _ js4.1 (by have f0 : ((-1) : Int32).toInt = (-1) := rfl; omega)) (fun r5 s6 hs6 => ?_)
  have js6 : JC 2213618296044400934912 s s6 := j_call js4 hs6.1 rfl
  refine oq_if (fun c3 => ?_) (fun c3 => ?_)
  · exact h_X2_passNight_25_53_b35 _ _ js6
  · exact h_X2_passNight_25_53_b35 _ _ js6
theorem h_X11_forecast_b52 {s0 : Sg} (n : Nat) : ∀ (v1 : Int32) (v2 : Int32) (v3 : Int32) (v6 : Int32) (s : Sg), JC 47890485652059026823698344598451736789623076791779328 s0 s → 0 ≤ v1.toInt ∧ v1.toInt ≤ 7 → 0 ≤ v6.toInt ∧ v6.toInt ≤ 2147483647 → 2147483647 - v6.toInt < (n : Int) → OQ (f_X11_forecast_b52 n v1 v2 v3 v6 s) (fun r9 s9 => JC 47890485652059026823698344598451736789623076791779328 s0 s9 ∧ True ∧ (r9 = 0 → True) ∧ (¬ r9 = 0 → True)) := by
  induction n with
  | zero => intro v1 v2 v3 v6 s hJ p_v1 p_v6 hn; exact False.elim (by have g0 := hn; have g1 := p_v1; have g2 := p_v6; have g3 := i_rg v1; have g4 := i_rg v2; have g5 := i_rg v3; have g6 := i_rg v6; omega)
  | succ n ih =>
    intro v1 v2 v3 v6 s hJ p_v1 p_v6 hn
    unfold f_X11_forecast_b52
    refine oq_if (fun c1 => ?_) (fun c1 => ?_)
    · refine oq_if (fun c2 => ?_) (fun c2 => ?_)
      · refine oq_c (inr_of (by have f0 := p_v1; have f1 := i_rg v1; omega)) ?_
        refine oq_b (h_X11_answer _ hJ.1) (fun r8 s9 hs9 => ?_)
        have js9 : JC 47890485652059026823698344598451736789623076791779328 s0 s9 := j_call hJ hs9.1 rfl
        exact ⟨js9, trivial, fun _ => trivial, fun _ => trivial⟩
      · refine oq_if (fun c3 => ?_) (fun c3 => ?_)
        · refine oq_c (inr_of (by have f0 := p_v1; have f1 := i_rg v1; omega)) ?_
          refine oq_b (h_X11_answer _ hJ.1) (fun r11 s12 hs12 => ?_)
          have js12 : JC 47890485652059026823698344598451736789623076791779328 s0 s12 := j_call hJ hs12.1 rfl
          exact ⟨js12, trivial, fun _ => trivial, fun _ => trivial⟩
        · refine oq_c (inr_of (by have f0 := p_v1; have f1 := i_rg v1; omega)) ?_
          refine oq_b (h_X11_answer _ hJ.1) (fun r14 s15 hs15 => ?_)
          have js15 : JC 47890485652059026823698344598451736789623076791779328 s0 s15 := j_call hJ hs15.1 rfl
          exact ⟨js15, trivial, fun _ => trivial, fun _ => trivial⟩
    · refine oq_b (h_X2_passNight_25_53  hJ.1) (fun u4 s17 hs17 => ?_)
      have js17 : JC 47890485652059026823698344598451736789623076791779328 s0 s17 := j_call hJ hs17.1 rfl
      exact ih _ _ _ _ _ js17 (by have f0 := p_v1; have f1 := i_rg v1; omega) (by have f0 := i_add (v6) ((1 : Int32)); have f1 := p_v6; have f2 := i_rg v6; have f3 : (1 : Int32).toInt = 1 := rfl; have f4 := i_nle c1; have f5 := i_rg v2; omega) (by have g0 := i_add (v6) ((1 : Int32)); have g1 := p_v1; have g2 := i_rg v1; have g3 := i_rg v2; have g4 := i_rg v3; have g5 := p_v6; have g6 := i_rg v6; have g7 : (1 : Int32).toInt = 1 := rfl; have g8 := i_nle c1; have g9 := hn; omega)
theorem h_X11_forecast_b26 {s0 : Sg} (v1 : Int32) (v2 : Int32) (v3 : Int32) (t0 : Int32) (t1 : Int32) (s : Sg) (hJ : JC 47890485652059026823698344598451736789623076791779328 s0 s) (p_t0 : 0 ≤ t0.toInt ∧ t0.toInt ≤ 1) (q_v1_t1 : v1 = t1) : OQ (f_X11_forecast_b26 v1 v2 v3 t0 t1 s) (fun r9 s9 => JC 47890485652059026823698344598451736789623076791779328 s0 s9 ∧ True ∧ (r9 = 0 → True) ∧ (¬ r9 = 0 → True)) := by
  unfold f_X11_forecast_b26
  refine oq_b (h_X11_whyNoStep _ _ hJ.1 (by have f0 := p_t0; have f1 := i_rg t0; omega)) (fun r3 s4 hs4 => ?_)
  have js4 : JC 47890485652059026823698344598451736789623076791779328 s0 s4 := j_call hJ hs4.1 rfl
  refine oq_if (fun c1 => ?_) (fun c1 => ?_)
  · refine oq_b (h_X2_copyFrom_26_53  js4.1) (fun u2 s6 hs6 => ?_)
    have js6 : JC 47890485652059026823698344598451736789623076791779328 s0 s6 := j_call js4 hs6.1 rfl
    exact h_X11_forecast_b52 BIG _ _ _ _ _ js6 (by have f0 := i_rg v1; have f1 := i_eq q_v1_t1; have f2 := (hs4.2.2.1 c1).1; have f3 := (hs4.2.2.1 c1).2.1; have f4 := i_rg t1; have f5 : (0 : Int32).toInt = 0 := rfl; have f6 : (7 : Int32).toInt = 7 := rfl; omega) (by have f0 : (0 : Int32).toInt = 0 := rfl; omega) (by have g0 := i_rg v1; have g1 := i_rg v2; have g2 := i_rg v3; have g3 : (0 : Int32).toInt = 0 := rfl; have g4 := i_eq q_v1_t1; have g5 := (hs4.2.2.1 c1).1; have g6 := (hs4.2.2.1 c1).2.1; have g7 := i_rg t1; have g8 : (7 : Int32).toInt = 7 := rfl; have g9 : BIG = 4294967296 := rfl; omega)
  · refine oq_b (h_X11_refuse _ js4.1 (by have f0 := hs4.2.1; have f1 := i_rg r3; have f2 := i_ne c1; have f3 : (0 : Int32).toInt = 0 := rfl; omega)) (fun r18 s19 hs19 => ?_)
    have js19 : JC 47890485652059026823698344598451736789623076791779328 s0 s19 := j_call js4 hs19.1 rfl
    exact ⟨js19, trivial, fun w9 => False.elim (by have f0 := hs19.2.1; have f1 := i_rg r18; have f2 := i_eq w9; have f3 : (0 : Int32).toInt = 0 := rfl; omega), fun _ => trivial⟩
theorem h_X11_forecast_b25 {s0 : Sg} (v1 : Int32) (v2 : Int32) (v3 : Int32) (t0 : Int32) (s : Sg) (hJ : JC 47890485652059026823698344598451736789623076791779328 s0 s) (q_v1_t0 : v1 = t0) : OQ (f_X11_forecast_b25 v1 v2 v3 t0 s) (fun r9 s9 => JC 47890485652059026823698344598451736789623076791779328 s0 s9 ∧ True ∧ (r9 = 0 → True) ∧ (¬ r9 = 0 → True)) := by
  unfold f_X11_forecast_b25
  exact h_X11_forecast_b26 _ _ _ _ _ _ hJ (by have f0 : (0 : Int32).toInt = 0 := rfl; omega) q_v1_t0
theorem h_X11_forecast (a1 : Int32) (a2 : Int32) (a3 : Int32) {s : Sg} (hR : Rg rC s) : OQ (f_X11_forecast a1 a2 a3 s) (fun r9 s9 => JC 47890485652059026823698344598451736789623076791779328 s s9 ∧ True ∧ (r9 = 0 → True) ∧ (¬ r9 = 0 → True)) := by
  have hJ : JC 47890485652059026823698344598451736789623076791779328 s s := j_refl hR
  unfold f_X11_forecast
  refine oq_b (h_X11_within _ _ _ hJ.1 (by have f0 : (0 : Int32).toInt = 0 := rfl; omega) (by have f0 : (60 : Int32).toInt = 60 := rfl; omega)) (fun r1 s2 hs2 => ?_)
  have js2 : JC 47890485652059026823698344598451736789623076791779328 s s2 := j_call hJ hs2.1 rfl
  refine oq_if (fun c1 => ?_) (fun c1 => ?_)
  · exact h_X11_forecast_b25 _ _ _ _ _ js2 rfl
  · refine oq_b (h_X11_within _ _ _ js2.1 (by have f0 : (0 : Int32).toInt = 0 := rfl; have f1 := (hs2.2.2.2 c1).2.2.2; have f2 : (60 : Int32).toInt = 60 := rfl; omega) (by have f0 : (2 : Int32).toInt = 2 := rfl; have f1 := (hs2.2.2.2 c1).2.2.2; have f2 : (0 : Int32).toInt = 0 := rfl; have f3 : (60 : Int32).toInt = 60 := rfl; omega)) (fun r20 s21 hs21 => ?_)
    have js21 : JC 47890485652059026823698344598451736789623076791779328 s s21 := j_call js2 hs21.1 rfl
    refine oq_if (fun c2 => ?_) (fun c2 => ?_)
    · exact h_X11_forecast_b25 _ _ _ _ _ js21 rfl
    · exact h_X11_forecast_b26 _ _ _ _ _ _ js21 (by have f0 : (1 : Int32).toInt = 1 := rfl; have f1 := (hs2.2.2.2 c1).2.2.2; have f2 := (hs21.2.2.2 c2).2.2.2; have f3 : (0 : Int32).toInt = 0 := rfl; have f4 : (60 : Int32).toInt = 60 := rfl; have f5 : (2 : Int32).toInt = 2 := rfl; omega) rfl
theorem h_X11_soonest_b21 {s0 : Sg} (n : Nat) : ∀ (v1 : Int32) (v3 : Int32) (s : Sg), JC 47890485652059026823698344598451736789623076791779328 s0 s → 0 ≤ v1.toInt ∧ v1.toInt ≤ 7 → 0 ≤ v3.toInt ∧ v3.toInt ≤ 61 → 61 - v3.toInt < (n : Int) → OQ (f_X11_soonest_b21 n v1 v3 s) (fun r9 s9 => JC 47890485652059026823698344598451736789623076791779328 s0 s9 ∧ True ∧ (r9 = 0 → True) ∧ (¬ r9 = 0 → True)) := by
  induction n with
  | zero => intro v1 v3 s hJ p_v1 p_v3 hn; exact False.elim (by have g0 := hn; have g1 := p_v1; have g2 := p_v3; have g3 := i_rg v1; have g4 := i_rg v3; omega)
  | succ n ih =>
    intro v1 v3 s hJ p_v1 p_v3 hn
    unfold f_X11_soonest_b21
    refine oq_if (fun c1 => ?_) (fun c1 => ?_)
    · refine oq_b (h_X11_refuse _ hJ.1 (by have f0 : (6 : Int32).toInt = 6 := rfl; omega)) (fun r7 s8 hs8 => ?_)
      have js8 : JC 47890485652059026823698344598451736789623076791779328 s0 s8 := j_call hJ hs8.1 rfl
      exact ⟨js8, trivial, fun w9 => False.elim (by have f0 := hs8.2.1; have f1 := i_rg r7; have f2 := i_eq w9; have f3 : (0 : Int32).toInt = 0 := rfl; omega), fun _ => trivial⟩
    · refine oq_b (h_X11_has _ _ hJ.1 (by have f0 := p_v1; have f1 := i_rg v1; omega)) (fun r9 s10 hs10 => ?_)
      have js10 : JC 47890485652059026823698344598451736789623076791779328 s0 s10 := j_call hJ hs10.1 rfl
      refine oq_if (fun c2 => ?_) (fun c2 => ?_)
      · refine oq_b (h_X2_passNight_25_53  js10.1) (fun u3 s12 hs12 => ?_)
        have js12 : JC 47890485652059026823698344598451736789623076791779328 s0 s12 := j_call js10 hs12.1 rfl
        exact ih _ _ _ js12 (by have f0 := p_v1; have f1 := i_rg v1; omega) (by have f0 := i_add (v3) ((1 : Int32)); have f1 := p_v3; have f2 := i_rg v3; have f3 : (1 : Int32).toInt = 1 := rfl; have f4 := i_nlt c1; have f5 : (60 : Int32).toInt = 60 := rfl; omega) (by have g0 := i_add (v3) ((1 : Int32)); have g1 := p_v1; have g2 := i_rg v1; have g3 := p_v3; have g4 := i_rg v3; have g5 : (1 : Int32).toInt = 1 := rfl; have g6 := i_nlt c1; have g7 : (60 : Int32).toInt = 60 := rfl; have g8 := hn; omega)
      · refine oq_b (h_X11_answer _ js10.1) (fun r13 s14 hs14 => ?_)
        have js14 : JC 47890485652059026823698344598451736789623076791779328 s0 s14 := j_call js10 hs14.1 rfl
        exact ⟨js14, trivial, fun _ => trivial, fun _ => trivial⟩
theorem h_X11_soonest (a1 : Int32) {s : Sg} (hR : Rg rC s) : OQ (f_X11_soonest a1 s) (fun r9 s9 => JC 47890485652059026823698344598451736789623076791779328 s s9 ∧ True ∧ (r9 = 0 → True) ∧ (¬ r9 = 0 → True)) := by
  have hJ : JC 47890485652059026823698344598451736789623076791779328 s s := j_refl hR
  unfold f_X11_soonest
  refine oq_b (h_X11_isQuarrel _ hJ.1) (fun r1 s2 hs2 => ?_)
  have js2 : JC 47890485652059026823698344598451736789623076791779328 s s2 := j_call hJ hs2.1 rfl
  refine oq_if (fun c1 => ?_) (fun c1 => ?_)
  · refine oq_b (h_X11_refuse _ js2.1 (by have f0 : (1 : Int32).toInt = 1 := rfl; omega)) (fun r3 s4 hs4 => ?_)
    have js4 : JC 47890485652059026823698344598451736789623076791779328 s s4 := j_call js2 hs4.1 rfl
    exact ⟨js4, trivial, fun w9 => False.elim (by have f0 := hs4.2.1; have f1 := i_rg r3; have f2 := i_eq w9; have f3 : (0 : Int32).toInt = 0 := rfl; omega), fun _ => trivial⟩
  · refine oq_b (h_X2_copyFrom_26_53  js2.1) (fun u2 s6 hs6 => ?_)
    have js6 : JC 47890485652059026823698344598451736789623076791779328 s s6 := j_call js2 hs6.1 rfl
    exact h_X11_soonest_b21 BIG _ _ _ js6 (by have f0 := i_rg a1; have f1 := (hs2.2.2.2 c1).1; have f2 := (hs2.2.2.2 c1).2; have f3 : (0 : Int32).toInt = 0 := rfl; have f4 : (7 : Int32).toInt = 7 := rfl; omega) (by have f0 : (0 : Int32).toInt = 0 := rfl; omega) (by have g0 := i_rg a1; have g1 : (0 : Int32).toInt = 0 := rfl; have g2 := (hs2.2.2.2 c1).1; have g3 := (hs2.2.2.2 c1).2; have g4 : (7 : Int32).toInt = 7 := rfl; have g5 : BIG = 4294967296 := rfl; omega)
theorem h_X11_longest_b4 {s0 : Sg} (n : Nat) : ∀ (v1 : Int32) (v2 : Int32) (s : Sg), JC 47890485652059026823698344598447161988085597568237568 s0 s → (-1) ≤ v1.toInt ∧ v1.toInt ≤ 7 → 0 ≤ v2.toInt ∧ v2.toInt ≤ 8 → 8 - v2.toInt < (n : Int) → OQ (f_X11_longest_b4 n v1 v2 s) (fun r9 s9 => JC 47890485652059026823698344598447161988085597568237568 s0 s9 ∧ True ∧ (r9 = 0 → True) ∧ (¬ r9 = 0 → True)) := by
  induction n with
  | zero => intro v1 v2 s hJ p_v1 p_v2 hn; exact False.elim (by have g0 := hn; have g1 := p_v1; have g2 := p_v2; have g3 := i_rg v1; have g4 := i_rg v2; omega)
  | succ n ih =>
    intro v1 v2 s hJ p_v1 p_v2 hn
    unfold f_X11_longest_b4
    refine oq_if (fun c1 => ?_) (fun c1 => ?_)
    · refine oq_b (h_X11_answerIfAny _ hJ.1 (by have f0 := p_v1; have f1 := i_rg v1; omega)) (fun r1 s2 hs2 => ?_)
      have js2 : JC 47890485652059026823698344598447161988085597568237568 s0 s2 := j_call hJ hs2.1 rfl
      exact ⟨js2, trivial, fun _ => trivial, fun _ => trivial⟩
    · refine oq_b (h_X11_has _ _ hJ.1 (by have f0 := p_v2; have f1 := i_rg v2; have f2 := i_nle c1; have f3 := j_rd hJ 25 14 0 8 rfl; omega)) (fun r3 s4 hs4 => ?_)
      have js4 : JC 47890485652059026823698344598447161988085597568237568 s0 s4 := j_call hJ hs4.1 rfl
      refine oq_if (fun c2 => ?_) (fun c2 => ?_)
      · refine oq_if (fun c3 => ?_) (fun c3 => ?_)
        · exact ih _ _ _ js4 (by have f0 := p_v2; have f1 := i_rg v2; have f2 := i_nle c1; have f3 := j_rd hJ 25 14 0 8 rfl; omega) (by have f0 := i_add (v2) ((1 : Int32)); have f1 := p_v2; have f2 := i_rg v2; have f3 : (1 : Int32).toInt = 1 := rfl; have f4 := i_nle c1; have f5 := j_rd hJ 25 14 0 8 rfl; omega) (by have g0 := i_add (v2) ((1 : Int32)); have g1 := p_v2; have g2 := i_rg v2; have g3 : (1 : Int32).toInt = 1 := rfl; have g4 := i_nle c1; have g5 := j_rd hJ 25 14 0 8 rfl; have g6 := hn; omega)
        · refine oq_c (inr_of (by have f0 := p_v2; have f1 := i_rg v2; have f2 := i_nle c1; have f3 := j_rd hJ 25 14 0 8 rfl; omega)) ?_
          refine oq_c (inr_of (by have f0 := p_v1; have f1 := i_rg v1; have f2 := i_ne c3; have f3 : ((-1) : Int32).toInt = (-1) := rfl; omega)) ?_
          refine oq_if (fun c4 => ?_) (fun c4 => ?_)
          · exact ih _ _ _ js4 (by have f0 := p_v1; have f1 := i_rg v1; have f2 := i_ne c3; have f3 : ((-1) : Int32).toInt = (-1) := rfl; omega) (by have f0 := i_add (v2) ((1 : Int32)); have f1 := p_v2; have f2 := i_rg v2; have f3 : (1 : Int32).toInt = 1 := rfl; have f4 := i_nle c1; have f5 := j_rd hJ 25 14 0 8 rfl; omega) (by have g0 := i_add (v2) ((1 : Int32)); have g1 := p_v1; have g2 := i_rg v1; have g3 := p_v2; have g4 := i_rg v2; have g5 : (1 : Int32).toInt = 1 := rfl; have g6 := i_nle c1; have g7 := i_ne c3; have g8 := j_rd hJ 25 14 0 8 rfl; have g9 : ((-1) : Int32).toInt = (-1) := rfl; have g10 := hn; omega)
          · exact ih _ _ _ js4 (by have f0 := p_v2; have f1 := i_rg v2; have f2 := i_nle c1; have f3 := j_rd hJ 25 14 0 8 rfl; omega) (by have f0 := i_add (v2) ((1 : Int32)); have f1 := p_v2; have f2 := i_rg v2; have f3 : (1 : Int32).toInt = 1 := rfl; have f4 := i_nle c1; have f5 := j_rd hJ 25 14 0 8 rfl; omega) (by have g0 := i_add (v2) ((1 : Int32)); have g1 := p_v2; have g2 := i_rg v2; have g3 : (1 : Int32).toInt = 1 := rfl; have g4 := i_nle c1; have g5 := j_rd hJ 25 14 0 8 rfl; have g6 := hn; omega)
      · exact ih _ _ _ js4 (by have f0 := p_v1; have f1 := i_rg v1; omega) (by have f0 := i_add (v2) ((1 : Int32)); have f1 := p_v2; have f2 := i_rg v2; have f3 : (1 : Int32).toInt = 1 := rfl; have f4 := i_nle c1; have f5 := j_rd hJ 25 14 0 8 rfl; omega) (by have g0 := i_add (v2) ((1 : Int32)); have g1 := p_v1; have g2 := i_rg v1; have g3 := p_v2; have g4 := i_rg v2; have g5 : (1 : Int32).toInt = 1 := rfl; have g6 := i_nle c1; have g7 := j_rd hJ 25 14 0 8 rfl; have g8 := hn; omega)
theorem h_X11_longest  {s : Sg} (hR : Rg rC s) : OQ (f_X11_longest  s) (fun r9 s9 => JC 47890485652059026823698344598447161988085597568237568 s s9 ∧ True ∧ (r9 = 0 → True) ∧ (¬ r9 = 0 → True)) := by
  have hJ : JC 47890485652059026823698344598447161988085597568237568 s s := j_refl hR
  unfold f_X11_longest
  exact h_X11_longest_b4 BIG _ _ _ hJ (by have f0 : ((-1) : Int32).toInt = (-1) := rfl; omega) (by have f0 : (0 : Int32).toInt = 0 := rfl; omega) (by have g0 : ((-1) : Int32).toInt = (-1) := rfl; have g1 : (0 : Int32).toInt = 0 := rfl; have g2 : BIG = 4294967296 := rfl; omega)
theorem h_X11_fullest_b4 {s0 : Sg} (n : Nat) : ∀ (v1 : Int32) (v2 : Int32) (s : Sg), JC 47890485652059026823698344598447161988085597568237568 s0 s → (-1) ≤ v1.toInt ∧ v1.toInt ≤ 7 → 0 ≤ v2.toInt ∧ v2.toInt ≤ 8 → 8 - v2.toInt < (n : Int) → OQ (f_X11_fullest_b4 n v1 v2 s) (fun r9 s9 => JC 47890485652059026823698344598447161988085597568237568 s0 s9 ∧ True ∧ (r9 = 0 → True) ∧ (¬ r9 = 0 → True)) := by
  induction n with
  | zero => intro v1 v2 s hJ p_v1 p_v2 hn; exact False.elim (by have g0 := hn; have g1 := p_v1; have g2 := p_v2; have g3 := i_rg v1; have g4 := i_rg v2; omega)
  | succ n ih =>
    intro v1 v2 s hJ p_v1 p_v2 hn
    unfold f_X11_fullest_b4
    refine oq_if (fun c1 => ?_) (fun c1 => ?_)
    · refine oq_b (h_X11_answerIfAny _ hJ.1 (by have f0 := p_v1; have f1 := i_rg v1; omega)) (fun r1 s2 hs2 => ?_)
      have js2 : JC 47890485652059026823698344598447161988085597568237568 s0 s2 := j_call hJ hs2.1 rfl
      exact ⟨js2, trivial, fun _ => trivial, fun _ => trivial⟩
    · refine oq_b (h_X4_isGone _ hJ.1 (by have f0 := p_v2; have f1 := i_rg v2; have f2 := i_nle c1; have f3 := j_rd hJ 25 13 0 8 rfl; omega)) (fun r3 s4 hs4 => ?_)
      have js4 : JC 47890485652059026823698344598447161988085597568237568 s0 s4 := j_call hJ hs4.1 rfl
      refine oq_if (fun c2 => ?_) (fun c2 => ?_)
      · refine oq_if (fun c3 => ?_) (fun c3 => ?_)
        · exact ih _ _ _ js4 (by have f0 := p_v2; have f1 := i_rg v2; have f2 := i_nle c1; have f3 := j_rd hJ 25 13 0 8 rfl; omega) (by have f0 := i_add (v2) ((1 : Int32)); have f1 := p_v2; have f2 := i_rg v2; have f3 : (1 : Int32).toInt = 1 := rfl; have f4 := i_nle c1; have f5 := j_rd hJ 25 13 0 8 rfl; omega) (by have g0 := i_add (v2) ((1 : Int32)); have g1 := p_v2; have g2 := i_rg v2; have g3 : (1 : Int32).toInt = 1 := rfl; have g4 := i_nle c1; have g5 := j_rd hJ 25 13 0 8 rfl; have g6 := hn; omega)
        · refine oq_b (h_X2_lying _ js4.1 (by have f0 := p_v2; have f1 := i_rg v2; have f2 := i_nle c1; have f3 := j_rd hJ 25 13 0 8 rfl; omega)) (fun r5 s6 hs6 => ?_)
          have js6 : JC 47890485652059026823698344598447161988085597568237568 s0 s6 := j_call js4 hs6.1 rfl
          refine oq_b (h_X2_lying _ js6.1 (by have f0 := p_v1; have f1 := i_rg v1; have f2 := i_ne c3; have f3 : ((-1) : Int32).toInt = (-1) := rfl; omega)) (fun r7 s8 hs8 => ?_)
          have js8 : JC 47890485652059026823698344598447161988085597568237568 s0 s8 := j_call js6 hs8.1 rfl
          refine oq_if (fun c4 => ?_) (fun c4 => ?_)
          · exact ih _ _ _ js8 (by have f0 := p_v1; have f1 := i_rg v1; have f2 := i_ne c3; have f3 : ((-1) : Int32).toInt = (-1) := rfl; omega) (by have f0 := i_add (v2) ((1 : Int32)); have f1 := p_v2; have f2 := i_rg v2; have f3 : (1 : Int32).toInt = 1 := rfl; have f4 := i_nle c1; have f5 := j_rd hJ 25 13 0 8 rfl; omega) (by have g0 := i_add (v2) ((1 : Int32)); have g1 := p_v1; have g2 := i_rg v1; have g3 := p_v2; have g4 := i_rg v2; have g5 : (1 : Int32).toInt = 1 := rfl; have g6 := i_nle c1; have g7 := i_ne c3; have g8 := j_rd hJ 25 13 0 8 rfl; have g9 : ((-1) : Int32).toInt = (-1) := rfl; have g10 := hn; omega)
          · exact ih _ _ _ js8 (by have f0 := p_v2; have f1 := i_rg v2; have f2 := i_nle c1; have f3 := j_rd hJ 25 13 0 8 rfl; omega) (by have f0 := i_add (v2) ((1 : Int32)); have f1 := p_v2; have f2 := i_rg v2; have f3 : (1 : Int32).toInt = 1 := rfl; have f4 := i_nle c1; have f5 := j_rd hJ 25 13 0 8 rfl; omega) (by have g0 := i_add (v2) ((1 : Int32)); have g1 := p_v2; have g2 := i_rg v2; have g3 : (1 : Int32).toInt = 1 := rfl; have g4 := i_nle c1; have g5 := j_rd hJ 25 13 0 8 rfl; have g6 := hn; omega)
      · exact ih _ _ _ js4 (by have f0 := p_v1; have f1 := i_rg v1; omega) (by have f0 := i_add (v2) ((1 : Int32)); have f1 := p_v2; have f2 := i_rg v2; have f3 : (1 : Int32).toInt = 1 := rfl; have f4 := i_nle c1; have f5 := j_rd hJ 25 13 0 8 rfl; omega) (by have g0 := i_add (v2) ((1 : Int32)); have g1 := p_v1; have g2 := i_rg v1; have g3 := p_v2; have g4 := i_rg v2; have g5 : (1 : Int32).toInt = 1 := rfl; have g6 := i_nle c1; have g7 := j_rd hJ 25 13 0 8 rfl; have g8 := hn; omega)
theorem h_X11_fullest  {s : Sg} (hR : Rg rC s) : OQ (f_X11_fullest  s) (fun r9 s9 => JC 47890485652059026823698344598447161988085597568237568 s s9 ∧ True ∧ (r9 = 0 → True) ∧ (¬ r9 = 0 → True)) := by
  have hJ : JC 47890485652059026823698344598447161988085597568237568 s s := j_refl hR
  unfold f_X11_fullest
  exact h_X11_fullest_b4 BIG _ _ _ hJ (by have f0 : ((-1) : Int32).toInt = (-1) := rfl; omega) (by have f0 : (0 : Int32).toInt = 0 := rfl; omega) (by have g0 : ((-1) : Int32).toInt = (-1) := rfl; have g1 : (0 : Int32).toInt = 0 := rfl; have g2 : BIG = 4294967296 := rfl; omega)
theorem h_X9_wantedAt_26_25_b73 {s0 : Sg} (k_27 : Int32 → Int32 → Int32 → Int32 → Sg → Option (Int32 × Sg)) (m_27 : Nat) (hk_27 : ∀ (v2 : Int32) (v3 : Int32) (v4 : Int32) (v5 : Int32) (s : Sg), JC 0 s0 s → 0 ≤ v2.toInt ∧ v2.toInt ≤ 7 → 0 ≤ v5.toInt ∧ v5.toInt ≤ 8 → 8 - v5.toInt < (m_27 : Int) → OQ (k_27 v2 v3 v4 v5 s) (fun r9 s9 => JC 0 s0 s9 ∧ True ∧ (r9 = 0 → True) ∧ (¬ r9 = 0 → True))) (v2 : Int32) (v3 : Int32) (v4 : Int32) (v5 : Int32) (t0 : Int32) (s : Sg) (hJ : JC 0 s0 s) (p_v2 : 0 ≤ v2.toInt ∧ v2.toInt ≤ 7) (p_v5 : 0 ≤ v5.toInt ∧ v5.toInt ≤ 7) (p_t0 : 0 ≤ t0.toInt ∧ t0.toInt ≤ 7) (hm_27 : 8 - v5.toInt < (m_27 : Int) + 1) : OQ (f_X9_wantedAt_26_25_b73 k_27 v2 v3 v4 v5 t0 s) (fun r9 s9 => JC 0 s0 s9 ∧ True ∧ (r9 = 0 → True) ∧ (¬ r9 = 0 → True)) := by
  unfold f_X9_wantedAt_26_25_b73
  refine oq_b (h_X2_inSight _ hJ.1 (by have f0 := p_t0; have f1 := i_rg t0; omega)) (fun r10 s11 hs11 => ?_)
  have js11 : JC 0 s0 s11 := j_call hJ hs11.1 rfl
  refine oq_b (h_X9_contentAt_25 _ _ _ js11.1 (by have f0 := p_t0; have f1 := i_rg t0; omega) (by have f0 : ((-1) : Int32).toInt = (-1) := rfl; omega)) (fun r12 s13 hs13 => ?_)
  have js13 : JC 0 s0 s13 := j_call js11 hs13.1 rfl
  refine oq_n (fun x14 ex14 => ?_)
  exact hk_27 _ _ _ _ _ js13 (by have f0 := p_v2; have f1 := i_rg v2; omega) (by have f0 := i_add (v5) ((1 : Int32)); have f1 := p_v5; have f2 := i_rg v5; have f3 : (1 : Int32).toInt = 1 := rfl; omega) (by have g0 := i_add (v5) ((1 : Int32)); have g1 := p_v2; have g2 := i_rg v2; have g3 := i_rg v3; have g4 := i_eq ex14; have g5 := i_and (v5) ((31 : Int32)) (by decide); have g6 := i_sh (v5) (by have f0 := p_v5; have f1 := i_rg v5; omega); have g7 := i_rg x14; have g8 := p_v5; have g9 := i_rg v5; have g10 : (1 : Int32).toInt = 1 := rfl; have g11 := i_rg v4; have g12 := i_rg r12; have g13 : (31 : Int32).toInt = 31 := rfl; have g14 := hm_27; omega)
theorem h_X9_wantedAt_26_25_b27 {s0 : Sg} (n : Nat) : ∀ (v2 : Int32) (v3 : Int32) (v4 : Int32) (v5 : Int32) (s : Sg), JC 0 s0 s → 0 ≤ v2.toInt ∧ v2.toInt ≤ 7 → 0 ≤ v5.toInt ∧ v5.toInt ≤ 8 → 8 - v5.toInt < (n : Int) → OQ (f_X9_wantedAt_26_25_b27 n v2 v3 v4 v5 s) (fun r9 s9 => JC 0 s0 s9 ∧ True ∧ (r9 = 0 → True) ∧ (¬ r9 = 0 → True)) := by
  induction n with
  | zero => intro v2 v3 v4 v5 s hJ p_v2 p_v5 hn; exact False.elim (by have g0 := hn; have g1 := p_v2; have g2 := p_v5; have g3 := i_rg v2; have g4 := i_rg v3; have g5 := i_rg v4; have g6 := i_rg v5; omega)
  | succ n ih =>
    intro v2 v3 v4 v5 s hJ p_v2 p_v5 hn
    unfold f_X9_wantedAt_26_25_b27
    refine oq_if (fun c1 => ?_) (fun c1 => ?_)
    · exact ⟨hJ, trivial, fun _ => trivial, fun _ => trivial⟩
    · refine oq_b (h_X11_has _ _ hJ.1 (by have f0 := p_v5; have f1 := i_rg v5; have f2 := i_nle c1; have f3 := j_rd hJ 25 14 0 8 rfl; omega)) (fun r7 s8 hs8 => ?_)
      have js8 : JC 0 s0 s8 := j_call hJ hs8.1 rfl
      refine oq_if (fun c2 => ?_) (fun c2 => ?_)
      · exact ih _ _ _ _ _ js8 (by have f0 := p_v2; have f1 := i_rg v2; omega) (by have f0 := i_add (v5) ((1 : Int32)); have f1 := p_v5; have f2 := i_rg v5; have f3 : (1 : Int32).toInt = 1 := rfl; have f4 := i_nle c1; have f5 := j_rd hJ 25 14 0 8 rfl; omega) (by have g0 := i_add (v5) ((1 : Int32)); have g1 := p_v2; have g2 := i_rg v2; have g3 := i_rg v3; have g4 := i_rg v4; have g5 := p_v5; have g6 := i_rg v5; have g7 : (1 : Int32).toInt = 1 := rfl; have g8 := i_nle c1; have g9 := j_rd hJ 25 14 0 8 rfl; have g10 := hn; omega)
      · refine oq_c (inr_of (by have f0 := p_v5; have f1 := i_rg v5; have f2 := i_nle c1; have f3 := j_rd hJ 25 14 0 8 rfl; omega)) ?_
        refine oq_if (fun c3 => ?_) (fun c3 => ?_)
        · exact h_X9_wantedAt_26_25_b73 _ n ih _ _ _ _ _ _ js8 (by have f0 := p_v2; have f1 := i_rg v2; have f2 := i_eq c3; have f3 := j_rd js8 31 v5.toNatClampNeg 0 7 rfl; omega) (by have f0 := p_v5; have f1 := i_rg v5; have f2 := i_nle c1; have f3 := j_rd hJ 25 14 0 8 rfl; omega) (by have f0 := j_rd js8 32 v5.toNatClampNeg 0 7 rfl; omega) (by have g0 := p_v2; have g1 := i_rg v2; have g2 := i_rg v3; have g3 := i_rg v4; have g4 := p_v5; have g5 := i_rg v5; have g6 := j_rd js8 32 v5.toNatClampNeg 0 7 rfl; have g7 : (s8.1 32 v5.toNatClampNeg).toInt = (s.1 32 v5.toNatClampNeg).toInt := j_fr hs8.1 32 v5.toNatClampNeg 32 rfl rfl; have g8 := j_rd hJ 32 v5.toNatClampNeg 0 7 rfl; have g9 := i_nle c1; have g10 := i_eq c3; have g11 := j_rd hJ 25 14 0 8 rfl; have g12 := j_rd js8 31 v5.toNatClampNeg 0 7 rfl; have g13 : (s8.1 31 v5.toNatClampNeg).toInt = (s.1 31 v5.toNatClampNeg).toInt := j_fr hs8.1 31 v5.toNatClampNeg 31 rfl rfl; have g14 := j_rd hJ 31 v5.toNatClampNeg 0 7 rfl; have g15 := hn; omega)
        · exact h_X9_wantedAt_26_25_b73 _ n ih _ _ _ _ _ _ js8 (by have f0 := p_v2; have f1 := i_rg v2; have f2 := i_ne c3; have f3 := j_rd js8 31 v5.toNatClampNeg 0 7 rfl; omega) (by have f0 := p_v5; have f1 := i_rg v5; have f2 := i_nle c1; have f3 := j_rd hJ 25 14 0 8 rfl; omega) (by have f0 := j_rd js8 31 v5.toNatClampNeg 0 7 rfl; have f1 := i_ne c3; have f2 := p_v2; have f3 := i_rg v2; omega) (by have g0 := p_v2; have g1 := i_rg v2; have g2 := i_rg v3; have g3 := i_rg v4; have g4 := p_v5; have g5 := i_rg v5; have g6 := j_rd js8 31 v5.toNatClampNeg 0 7 rfl; have g7 : (s8.1 31 v5.toNatClampNeg).toInt = (s.1 31 v5.toNatClampNeg).toInt := j_fr hs8.1 31 v5.toNatClampNeg 31 rfl rfl; have g8 := j_rd hJ 31 v5.toNatClampNeg 0 7 rfl; have g9 := i_nle c1; have g10 := i_ne c3; have g11 := j_rd hJ 25 14 0 8 rfl; have g12 := hn; omega)
theorem h_X9_wantedAt_26_25 (a2 : Int32) {s : Sg} (hR : Rg rC s) (p_a2 : 0 ≤ a2.toInt ∧ a2.toInt ≤ 7) : OQ (f_X9_wantedAt_26_25 a2 s) (fun r9 s9 => JC 0 s s9 ∧ True ∧ (r9 = 0 → True) ∧ (¬ r9 = 0 → True)) := by
  have hJ : JC 0 s s := j_refl hR
  unfold f_X9_wantedAt_26_25
  refine oq_c (inr_of (by have f0 := p_a2; have f1 := i_rg a2; omega)) ?_
  refine oq_b (h_X2_inSight _ hJ.1 (by have f0 := p_a2; have f1 := i_rg a2; omega)) (fun r2 s3 hs3 => ?_)
  have js3 : JC 0 s s3 := j_call hJ hs3.1 rfl
  refine oq_b (h_X9_contentAt_25 _ _ _ js3.1 (by have f0 := p_a2; have f1 := i_rg a2; omega) (by have f0 : ((-1) : Int32).toInt = (-1) := rfl; omega)) (fun r4 s5 hs5 => ?_)
  have js5 : JC 0 s s5 := j_call js3 hs5.1 rfl
  refine oq_n (fun x6 ex6 => ?_)
  exact h_X9_wantedAt_26_25_b27 BIG _ _ _ _ _ js5 (by have f0 := p_a2; have f1 := i_rg a2; omega) (by have f0 : (0 : Int32).toInt = 0 := rfl; omega) (by have g0 := p_a2; have g1 := i_rg a2; have g2 := i_eq ex6; have g3 := i_rg x6; have g4 : (0 : Int32).toInt = 0 := rfl; have g5 := i_rg (s.1 34 a2.toNatClampNeg); have g6 := i_rg r4; have g7 : ((-1) : Int32).toInt = (-1) := rfl; have g8 : BIG = 4294967296 := rfl; omega)
theorem h_bitCount (a0 : Int32) {s : Sg} (hR : Rg rC s) : OQ (f_bitCount a0 s) (fun r9 s9 => JC 0 s s9 ∧ (0 ≤ r9.toInt ∧ r9.toInt ≤ 63) ∧ (r9 = 0 → True) ∧ (¬ r9 = 0 → True)) := by
  have hJ : JC 0 s s := j_refl hR
  unfold f_bitCount
  refine oq_n (fun x1 ex1 => ?_)
  refine oq_n (fun x2 ex2 => ?_)
  refine oq_n (fun x3 ex3 => ?_)
  refine oq_n (fun x4 ex4 => ?_)
  refine oq_n (fun x5 ex5 => ?_)
  exact ⟨hJ, (by have f0 := i_and (x5) ((63 : Int32)) (by decide); have f1 := i_eq ex5; have f2 := i_add (x4) ((x4.toUInt32 >>> ((16 : Int32).toUInt32 &&& Int32.toUInt32 31)).toInt32); have f3 := i_rg x5; have f4 : (63 : Int32).toInt = 63 := rfl; have f5 := i_eq ex4; have f6 := i_add (x3) ((x3.toUInt32 >>> ((8 : Int32).toUInt32 &&& Int32.toUInt32 31)).toInt32); have f7 := i_rg x4; have f8 := i_eq ex3; have f9 := i_add (x2) ((x2.toUInt32 >>> ((4 : Int32).toUInt32 &&& Int32.toUInt32 31)).toInt32); have f10 := i_and (x2 + ((x2.toUInt32 >>> ((4 : Int32).toUInt32 &&& Int32.toUInt32 31)).toInt32)) ((252645135 : Int32)) (by decide); have f11 := i_rg x3; have f12 := i_eq ex2; have f13 := i_and (x1) ((858993459 : Int32)) (by decide); have f14 := i_and ((x1.toUInt32 >>> ((2 : Int32).toUInt32 &&& Int32.toUInt32 31)).toInt32) ((858993459 : Int32)) (by decide); have f15 := i_add (x1 &&& 858993459) (((x1.toUInt32 >>> ((2 : Int32).toUInt32 &&& Int32.toUInt32 31)).toInt32) &&& 858993459); have f16 := i_rg x2; have f17 : (252645135 : Int32).toInt = 252645135 := rfl; have f18 := i_eq ex1; have f19 := i_and ((a0.toUInt32 >>> ((1 : Int32).toUInt32 &&& Int32.toUInt32 31)).toInt32) ((1431655765 : Int32)) (by decide); have f20 := i_sub (a0) (((a0.toUInt32 >>> ((1 : Int32).toUInt32 &&& Int32.toUInt32 31)).toInt32) &&& 1431655765); have f21 := i_rg x1; have f22 : (858993459 : Int32).toInt = 858993459 := rfl; have f23 := i_rg a0; have f24 : (1431655765 : Int32).toInt = 1431655765 := rfl; omega), fun _ => trivial, fun _ => trivial⟩
theorem h_X9_broughtBy_26_25 (a2 : Int32) (a3 : Int32) {s : Sg} (hR : Rg rC s) (p_a2 : 0 ≤ a2.toInt ∧ a2.toInt ≤ 7) (p_a3 : 1 ≤ a3.toInt ∧ a3.toInt ≤ 999) : OQ (f_X9_broughtBy_26_25 a2 a3 s) (fun r9 s9 => JC 0 s s9 ∧ (0 ≤ r9.toInt ∧ r9.toInt ≤ 79) ∧ (r9 = 0 → True) ∧ (¬ r9 = 0 → True)) := by
  have hJ : JC 0 s s := j_refl hR
  unfold f_X9_broughtBy_26_25
  refine oq_b (h_X4_isGone _ hJ.1 (by have f0 := p_a2; have f1 := i_rg a2; omega)) (fun r1 s2 hs2 => ?_)
  have js2 : JC 0 s s2 := j_call hJ hs2.1 rfl
  refine oq_if (fun c1 => ?_) (fun c1 => ?_)
  · refine oq_c (inr_of (by have f0 := p_a2; have f1 := i_rg a2; omega)) ?_
    refine oq_if (fun c2 => ?_) (fun c2 => ?_)
    · refine oq_b (h_X2_lying _ js2.1 (by have f0 := p_a2; have f1 := i_rg a2; omega)) (fun r4 s5 hs5 => ?_)
      have js5 : JC 0 s s5 := j_call js2 hs5.1 rfl
      refine oq_b (h_X9_contentAt_25 _ _ _ js5.1 (by have f0 := p_a2; have f1 := i_rg a2; omega) (by have f0 : ((-1) : Int32).toInt = (-1) := rfl; omega)) (fun r6 s7 hs7 => ?_)
      have js7 : JC 0 s s7 := j_call js5 hs7.1 rfl
      refine oq_b (h_X9_wantedAt_26_25 _ js7.1 (by have f0 := p_a2; have f1 := i_rg a2; omega)) (fun r8 s9 hs9 => ?_)
      have js9 : JC 0 s s9 := j_call js7 hs9.1 rfl
      refine oq_b (h_bitCount _ js9.1) (fun r10 s11 hs11 => ?_)
      have js11 : JC 0 s s11 := j_call js9 hs11.1 rfl
      exact ⟨js11, (by have f0 := hs11.2.1; have f1 := i_rg r10; omega), fun _ => trivial, fun _ => trivial⟩
    · exact ⟨js2, (by have f0 : (0 : Int32).toInt = 0 := rfl; omega), fun _ => trivial, fun w9 => absurd rfl w9⟩
  · exact ⟨js2, (by have f0 : (0 : Int32).toInt = 0 := rfl; omega), fun _ => trivial, fun w9 => absurd rfl w9⟩
theorem h_X9_bestFor_26_25_b8 {s0 : Sg} (n : Nat) : ∀ (v2 : Int32) (v3 : Int32) (v4 : Int32) (v5 : Int32) (s : Sg), JC 0 s0 s → 1 ≤ v2.toInt ∧ v2.toInt ≤ 999 → (-1) ≤ v3.toInt ∧ v3.toInt ≤ 7 → 0 ≤ v4.toInt ∧ v4.toInt ≤ 79 → 0 ≤ v5.toInt ∧ v5.toInt ≤ 8 → 8 - v5.toInt < (n : Int) → OQ (f_X9_bestFor_26_25_b8 n v2 v3 v4 v5 s) (fun r9 s9 => JC 0 s0 s9 ∧ ((-1) ≤ r9.toInt ∧ r9.toInt ≤ 7) ∧ (r9 = 0 → True) ∧ (¬ r9 = 0 → True)) := by
  induction n with
  | zero => intro v2 v3 v4 v5 s hJ p_v2 p_v3 p_v4 p_v5 hn; exact False.elim (by have g0 := hn; have g1 := p_v2; have g2 := p_v3; have g3 := p_v4; have g4 := p_v5; have g5 := i_rg v2; have g6 := i_rg v3; have g7 := i_rg v4; have g8 := i_rg v5; omega)
  | succ n ih =>
    intro v2 v3 v4 v5 s hJ p_v2 p_v3 p_v4 p_v5 hn
    unfold f_X9_bestFor_26_25_b8
    refine oq_if (fun c1 => ?_) (fun c1 => ?_)
    · exact ⟨hJ, (by have f0 := p_v3; have f1 := i_rg v3; omega), fun _ => trivial, fun _ => trivial⟩
    · refine oq_b (h_X9_broughtBy_26_25 _ _ hJ.1 (by have f0 := p_v5; have f1 := i_rg v5; have f2 := i_nle c1; have f3 := j_rd hJ 25 13 0 8 rfl; omega) (by have f0 := p_v2; have f1 := i_rg v2; omega)) (fun r1 s2 hs2 => ?_)
      have js2 : JC 0 s0 s2 := j_call hJ hs2.1 rfl
      refine oq_if (fun c2 => ?_) (fun c2 => ?_)
      · exact ih _ _ _ _ _ js2 (by have f0 := p_v2; have f1 := i_rg v2; omega) (by have f0 := p_v3; have f1 := i_rg v3; omega) (by have f0 := p_v4; have f1 := i_rg v4; have f2 := i_le c2; have f3 := hs2.2.1; have f4 := i_rg r1; omega) (by have f0 := i_add (v5) ((1 : Int32)); have f1 := p_v5; have f2 := i_rg v5; have f3 : (1 : Int32).toInt = 1 := rfl; have f4 := i_nle c1; have f5 := j_rd hJ 25 13 0 8 rfl; omega) (by have g0 := i_add (v5) ((1 : Int32)); have g1 := p_v2; have g2 := i_rg v2; have g3 := p_v3; have g4 := i_rg v3; have g5 := p_v4; have g6 := i_rg v4; have g7 := p_v5; have g8 := i_rg v5; have g9 : (1 : Int32).toInt = 1 := rfl; have g10 := i_nle c1; have g11 := i_le c2; have g12 := j_rd hJ 25 13 0 8 rfl; have g13 := hs2.2.1; have g14 := i_rg r1; have g15 := hn; omega)
      · exact ih _ _ _ _ _ js2 (by have f0 := p_v2; have f1 := i_rg v2; omega) (by have f0 := p_v5; have f1 := i_rg v5; have f2 := i_nle c1; have f3 := j_rd hJ 25 13 0 8 rfl; omega) (by have f0 := hs2.2.1; have f1 := i_rg r1; have f2 := i_nle c2; have f3 := p_v4; have f4 := i_rg v4; omega) (by have f0 := i_add (v5) ((1 : Int32)); have f1 := p_v5; have f2 := i_rg v5; have f3 : (1 : Int32).toInt = 1 := rfl; have f4 := i_nle c1; have f5 := j_rd hJ 25 13 0 8 rfl; omega) (by have g0 := i_add (v5) ((1 : Int32)); have g1 := p_v2; have g2 := i_rg v2; have g3 := p_v5; have g4 := i_rg v5; have g5 := hs2.2.1; have g6 := i_rg r1; have g7 : (1 : Int32).toInt = 1 := rfl; have g8 := i_nle c1; have g9 := i_nle c2; have g10 := j_rd hJ 25 13 0 8 rfl; have g11 := p_v4; have g12 := i_rg v4; have g13 := hn; omega)
theorem h_X9_bestFor_26_25 (a2 : Int32) {s : Sg} (hR : Rg rC s) (p_a2 : 1 ≤ a2.toInt ∧ a2.toInt ≤ 999) : OQ (f_X9_bestFor_26_25 a2 s) (fun r9 s9 => JC 0 s s9 ∧ ((-1) ≤ r9.toInt ∧ r9.toInt ≤ 7) ∧ (r9 = 0 → True) ∧ (¬ r9 = 0 → True)) := by
  have hJ : JC 0 s s := j_refl hR
  unfold f_X9_bestFor_26_25
  exact h_X9_bestFor_26_25_b8 BIG _ _ _ _ _ hJ (by have f0 := p_a2; have f1 := i_rg a2; omega) (by have f0 : ((-1) : Int32).toInt = (-1) := rfl; omega) (by have f0 : (0 : Int32).toInt = 0 := rfl; omega) (by have f0 : (0 : Int32).toInt = 0 := rfl; omega) (by have g0 := p_a2; have g1 := i_rg a2; have g2 : ((-1) : Int32).toInt = (-1) := rfl; have g3 : (0 : Int32).toInt = 0 := rfl; have g4 : BIG = 4294967296 := rfl; omega)
theorem h_X11_best (a1 : Int32) {s : Sg} (hR : Rg rC s) : OQ (f_X11_best a1 s) (fun r9 s9 => JC 47890485652059026823698344598447161988085597568237568 s s9 ∧ True ∧ (r9 = 0 → 1 ≤ (a1).toInt ∧ (a1).toInt ≤ 999) ∧ (¬ r9 = 0 → True)) := by
  have hJ : JC 47890485652059026823698344598447161988085597568237568 s s := j_refl hR
  unfold f_X11_best
  refine oq_b (h_X11_within _ _ _ hJ.1 (by have f0 : (1 : Int32).toInt = 1 := rfl; omega) (by have f0 : (999 : Int32).toInt = 999 := rfl; omega)) (fun r1 s2 hs2 => ?_)
  have js2 : JC 47890485652059026823698344598447161988085597568237568 s s2 := j_call hJ hs2.1 rfl
  refine oq_if (fun c1 => ?_) (fun c1 => ?_)
  · refine oq_b (h_X11_refuse _ js2.1 (by have f0 : (1 : Int32).toInt = 1 := rfl; omega)) (fun r3 s4 hs4 => ?_)
    have js4 : JC 47890485652059026823698344598447161988085597568237568 s s4 := j_call js2 hs4.1 rfl
    exact ⟨js4, trivial, fun w9 => False.elim (by have f0 := hs4.2.1; have f1 := i_rg r3; have f2 := i_eq w9; have f3 : (0 : Int32).toInt = 0 := rfl; omega), fun _ => trivial⟩
  · refine oq_b (h_X9_bestFor_26_25 _ js2.1 (by have f0 := i_rg a1; have f1 := (hs2.2.2.2 c1).1; have f2 := (hs2.2.2.2 c1).2.1; have f3 := (hs2.2.2.2 c1).2.2.1; have f4 := (hs2.2.2.2 c1).2.2.2; have f5 : (1 : Int32).toInt = 1 := rfl; have f6 : (999 : Int32).toInt = 999 := rfl; have f7 : (0 : Int32).toInt = 0 := rfl; omega)) (fun r5 s6 hs6 => ?_)
    have js6 : JC 47890485652059026823698344598447161988085597568237568 s s6 := j_call js2 hs6.1 rfl
    refine oq_b (h_X11_answerIfAny _ js6.1 (by have f0 := hs6.2.1; have f1 := i_rg r5; have f2 := (hs2.2.2.2 c1).2.2.2; have f3 : (0 : Int32).toInt = 0 := rfl; have f4 : (999 : Int32).toInt = 999 := rfl; omega)) (fun r7 s8 hs8 => ?_)
    have js8 : JC 47890485652059026823698344598447161988085597568237568 s s8 := j_call js6 hs8.1 rfl
    exact ⟨js8, trivial, fun w9 => ⟨(by have f0 : (1 : Int32).toInt = 1 := rfl; have f1 := i_rg a1; have f2 := (hs2.2.2.2 c1).1; have f3 := (hs2.2.2.2 c1).2.1; have f4 := (hs2.2.2.2 c1).2.2.1; have f5 := (hs2.2.2.2 c1).2.2.2; have f6 : (999 : Int32).toInt = 999 := rfl; have f7 : (0 : Int32).toInt = 0 := rfl; omega), (by have f0 := i_rg a1; have f1 : (999 : Int32).toInt = 999 := rfl; have f2 := (hs2.2.2.2 c1).1; have f3 := (hs2.2.2.2 c1).2.1; have f4 := (hs2.2.2.2 c1).2.2.1; have f5 := (hs2.2.2.2 c1).2.2.2; have f6 : (1 : Int32).toInt = 1 := rfl; have f7 : (0 : Int32).toInt = 0 := rfl; omega)⟩, fun _ => trivial⟩
theorem h_X11_clearRow_20_b2 {s0 : Sg} (n : Nat) : ∀ (v1 : Int32) (s : Sg), JC 1048576 s0 s → 0 ≤ v1.toInt ∧ v1.toInt ≤ 8 → 8 - v1.toInt < (n : Int) → OQ (f_X11_clearRow_20_b2 n v1 s) (fun _ s9 => JC 1048576 s0 s9 ∧ True) := by
  induction n with
  | zero => intro v1 s hJ p_v1 hn; exact False.elim (by have g0 := hn; have g1 := p_v1; have g2 := i_rg v1; omega)
  | succ n ih =>
    intro v1 s hJ p_v1 hn
    unfold f_X11_clearRow_20_b2
    refine oq_if (fun c1 => ?_) (fun c1 => ?_)
    · exact ⟨hJ, trivial⟩
    · refine oq_c (inr_of (by have f0 := p_v1; have f1 := i_rg v1; have f2 := i_nle c1; have f3 : (8 : Int32).toInt = 8 := rfl; omega)) ?_
      exact ih _ _ (j_wf hJ rfl 20 rfl rfl) (by have f0 := i_add (v1) ((1 : Int32)); have f1 := p_v1; have f2 := i_rg v1; have f3 : (1 : Int32).toInt = 1 := rfl; have f4 := i_nle c1; have f5 : (8 : Int32).toInt = 8 := rfl; omega) (by have g0 := i_add (v1) ((1 : Int32)); have g1 := p_v1; have g2 := i_rg v1; have g3 : (1 : Int32).toInt = 1 := rfl; have g4 := i_nle c1; have g5 : (8 : Int32).toInt = 8 := rfl; have g6 := hn; omega)
theorem h_X11_clearRow_20  {s : Sg} (hR : Rg rC s) : OQ (f_X11_clearRow_20  s) (fun _ s9 => JC 1048576 s s9 ∧ True) := by
  have hJ : JC 1048576 s s := j_refl hR
  unfold f_X11_clearRow_20
  exact h_X11_clearRow_20_b2 BIG _ _ hJ (by have f0 : (0 : Int32).toInt = 0 := rfl; omega) (by have g0 : (0 : Int32).toInt = 0 := rfl; have g1 : BIG = 4294967296 := rfl; omega)
theorem h_X0_askFor_25_b9 {s0 : Sg} (n : Nat) : ∀ (v2 : Int32) (v3 : Int32) (s : Sg), JC 1048576 s0 s → 0 ≤ v3.toInt ∧ v3.toInt ≤ 8 → 8 - v3.toInt < (n : Int) → OQ (f_X0_askFor_25_b9 n v2 v3 s) (fun _ s9 => JC 1048576 s0 s9 ∧ True) := by
  induction n with
  | zero => intro v2 v3 s hJ p_v3 hn; exact False.elim (by have g0 := hn; have g1 := p_v3; have g2 := i_rg v2; have g3 := i_rg v3; omega)
  | succ n ih =>
    intro v2 v3 s hJ p_v3 hn
    unfold f_X0_askFor_25_b9
    refine oq_if (fun c1 => ?_) (fun c1 => ?_)
    · exact ⟨hJ, trivial⟩
    · refine oq_b (h_X11_has _ _ hJ.1 (by have f0 := p_v3; have f1 := i_rg v3; have f2 := i_nle c1; have f3 := j_rd hJ 25 14 0 8 rfl; omega)) (fun r3 s4 hs4 => ?_)
      have js4 : JC 1048576 s0 s4 := j_call hJ hs4.1 rfl
      refine oq_if (fun c2 => ?_) (fun c2 => ?_)
      · exact ih _ _ _ js4 (by have f0 := i_add (v3) ((1 : Int32)); have f1 := p_v3; have f2 := i_rg v3; have f3 : (1 : Int32).toInt = 1 := rfl; have f4 := i_nle c1; have f5 := j_rd hJ 25 14 0 8 rfl; omega) (by have g0 := i_add (v3) ((1 : Int32)); have g1 := i_rg v2; have g2 := p_v3; have g3 := i_rg v3; have g4 : (1 : Int32).toInt = 1 := rfl; have g5 := i_nle c1; have g6 := j_rd hJ 25 14 0 8 rfl; have g7 := hn; omega)
      · refine oq_c (inr_of (by have f0 := p_v3; have f1 := i_rg v3; have f2 := i_nle c1; have f3 := j_rd hJ 25 14 0 8 rfl; omega)) ?_
        refine oq_c (inr_of (by have f0 := j_rd js4 31 v3.toNatClampNeg 0 7 rfl; omega)) ?_
        refine oq_n (fun s7 es7 => ?_)
        have js7 : JC 1048576 s0 s7 := by rw [es7]; exact (j_wf js4 rfl 20 rfl rfl)
        refine oq_c (inr_of (by have f0 := j_rd js7 32 v3.toNatClampNeg 0 7 rfl; omega)) ?_
        refine oq_n (fun s9 es9 => ?_)
        have js9 : JC 1048576 s0 s9 := by rw [es9]; exact (j_wf js7 rfl 20 rfl rfl)
        exact ih _ _ _ js9 (by have f0 := i_add (v3) ((1 : Int32)); have f1 := p_v3; have f2 := i_rg v3; have f3 : (1 : Int32).toInt = 1 := rfl; have f4 := i_nle c1; have f5 := j_rd hJ 25 14 0 8 rfl; omega) (by have g0 := i_add (v3) ((1 : Int32)); have g1 := i_rg v2; have g2 := p_v3; have g3 := i_rg v3; have g4 : (1 : Int32).toInt = 1 := rfl; have g5 := i_nle c1; have g6 := j_rd hJ 25 14 0 8 rfl; have g7 := hn; omega)
theorem h_X0_askFor_25 (a2 : Int32) {s : Sg} (hR : Rg rC s) : OQ (f_X0_askFor_25 a2 s) (fun _ s9 => JC 1048576 s s9 ∧ True) := by
  have hJ : JC 1048576 s s := j_refl hR
  unfold f_X0_askFor_25
  refine oq_b (h_X11_clearRow_20  hJ.1) (fun u1 s2 hs2 => ?_)
  have js2 : JC 1048576 s s2 := j_call hJ hs2.1 rfl
  exact h_X0_askFor_25_b9 BIG _ _ _ js2 (by have f0 : (0 : Int32).toInt = 0 := rfl; omega) (by have g0 := i_rg a2; have g1 : (0 : Int32).toInt = 0 := rfl; have g2 : BIG = 4294967296 := rfl; omega)
theorem h_X0_lackOnStep_25_26 (a3 : Int32) (a4 : Int32) {s : Sg} (hR : Rg rC s) (p_a4 : 0 ≤ a4.toInt ∧ a4.toInt ≤ 7) : OQ (f_X0_lackOnStep_25_26 a3 a4 s) (fun r9 s9 => JC 1048576 s s9 ∧ (0 ≤ r9.toInt ∧ r9.toInt ≤ 2147483647) ∧ (r9 = 0 → True) ∧ (¬ r9 = 0 → True)) := by
  have hJ : JC 1048576 s s := j_refl hR
  unfold f_X0_lackOnStep_25_26
  refine oq_b (h_X0_askFor_25 _ hJ.1) (fun u1 s2 hs2 => ?_)
  have js2 : JC 1048576 s s2 := j_call hJ hs2.1 rfl
  refine oq_c (inr_of (by have f0 := p_a4; have f1 := i_rg a4; omega)) ?_
  refine oq_b (h_X2_lying _ js2.1 (by have f0 := p_a4; have f1 := i_rg a4; omega)) (fun r4 s5 hs5 => ?_)
  have js5 : JC 1048576 s s5 := j_call js2 hs5.1 rfl
  exact ⟨js5, (by have f0 := i_sub (s2.1 20 a4.toNatClampNeg) (r4); have f1 := ite_lt ((0 : Int32)) ((s2.1 20 a4.toNatClampNeg) - r4) ((s2.1 20 a4.toNatClampNeg) - r4) ((0 : Int32)); have f2 : (0 : Int32).toInt = 0 := rfl; have f3 := i_rg (s2.1 20 a4.toNatClampNeg); have f4 := i_rg r4; omega), fun _ => trivial, fun _ => trivial⟩
theorem h_X0_lackOf_25_26_b17 {s0 : Sg} (n : Nat) : ∀ (v3 : Int32) (v4 : Int32) (v5 : Int32) (s : Sg), JC 1048576 s0 s → 0 ≤ v3.toInt ∧ v3.toInt ≤ 300 → 0 ≤ v5.toInt ∧ v5.toInt ≤ 8 → 8 - v5.toInt < (n : Int) → OQ (f_X0_lackOf_25_26_b17 n v3 v4 v5 s) (fun r9 s9 => JC 1048576 s0 s9 ∧ True ∧ (r9 = 0 → True) ∧ (¬ r9 = 0 → True)) := by
  induction n with
  | zero => intro v3 v4 v5 s hJ p_v3 p_v5 hn; exact False.elim (by have g0 := hn; have g1 := p_v3; have g2 := p_v5; have g3 := i_rg v3; have g4 := i_rg v4; have g5 := i_rg v5; omega)
  | succ n ih =>
    intro v3 v4 v5 s hJ p_v3 p_v5 hn
    unfold f_X0_lackOf_25_26_b17
    refine oq_if (fun c1 => ?_) (fun c1 => ?_)
    · exact ⟨hJ, trivial, fun _ => trivial, fun _ => trivial⟩
    · refine oq_b (h_X4_isGone _ hJ.1 (by have f0 := p_v5; have f1 := i_rg v5; have f2 := i_nle c1; have f3 := j_rd hJ 25 13 0 8 rfl; omega)) (fun r3 s4 hs4 => ?_)
      have js4 : JC 1048576 s0 s4 := j_call hJ hs4.1 rfl
      refine oq_if (fun c2 => ?_) (fun c2 => ?_)
      · refine oq_b (h_X0_lackOnStep_25_26 _ _ js4.1 (by have f0 := p_v5; have f1 := i_rg v5; have f2 := i_nle c1; have f3 := j_rd hJ 25 13 0 8 rfl; omega)) (fun r5 s6 hs6 => ?_)
        have js6 : JC 1048576 s0 s6 := j_call js4 hs6.1 rfl
        exact ih _ _ _ _ js6 (by have f0 := p_v3; have f1 := i_rg v3; omega) (by have f0 := i_add (v5) ((1 : Int32)); have f1 := p_v5; have f2 := i_rg v5; have f3 : (1 : Int32).toInt = 1 := rfl; have f4 := i_nle c1; have f5 := j_rd hJ 25 13 0 8 rfl; omega) (by have g0 := i_add (v4) (r5); have g1 := i_add (v5) ((1 : Int32)); have g2 := p_v3; have g3 := i_rg v3; have g4 := i_rg v4; have g5 := hs6.2.1; have g6 := i_rg r5; have g7 := p_v5; have g8 := i_rg v5; have g9 : (1 : Int32).toInt = 1 := rfl; have g10 := i_nle c1; have g11 := j_rd hJ 25 13 0 8 rfl; have g12 := hn; omega)
      · exact ih _ _ _ _ js4 (by have f0 := p_v3; have f1 := i_rg v3; omega) (by have f0 := i_add (v5) ((1 : Int32)); have f1 := p_v5; have f2 := i_rg v5; have f3 : (1 : Int32).toInt = 1 := rfl; have f4 := i_nle c1; have f5 := j_rd hJ 25 13 0 8 rfl; omega) (by have g0 := i_add (v5) ((1 : Int32)); have g1 := p_v3; have g2 := i_rg v3; have g3 := i_rg v4; have g4 := p_v5; have g5 := i_rg v5; have g6 : (1 : Int32).toInt = 1 := rfl; have g7 := i_nle c1; have g8 := j_rd hJ 25 13 0 8 rfl; have g9 := hn; omega)
theorem h_X0_lackOf_25_26 (a3 : Int32) {s : Sg} (hR : Rg rC s) (p_a3 : 0 ≤ a3.toInt ∧ a3.toInt ≤ 300) : OQ (f_X0_lackOf_25_26 a3 s) (fun r9 s9 => JC 1048576 s s9 ∧ True ∧ (r9 = 0 → True) ∧ (¬ r9 = 0 → True)) := by
  have hJ : JC 1048576 s s := j_refl hR
  unfold f_X0_lackOf_25_26
  refine oq_b (h_X4_withoutHope  hJ.1) (fun r1 s2 hs2 => ?_)
  have js2 : JC 1048576 s s2 := j_call hJ hs2.1 rfl
  refine oq_if (fun c1 => ?_) (fun c1 => ?_)
  · exact h_X0_lackOf_25_26_b17 BIG _ _ _ _ js2 (by have f0 := p_a3; have f1 := i_rg a3; have f2 := i_eq c1; have f3 := i_rg r1; have f4 : (0 : Int32).toInt = 0 := rfl; omega) (by have f0 : (0 : Int32).toInt = 0 := rfl; omega) (by have g0 := p_a3; have g1 := i_rg a3; have g2 : (0 : Int32).toInt = 0 := rfl; have g3 := i_eq c1; have g4 := i_rg r1; have g5 : BIG = 4294967296 := rfl; omega)
  · exact ⟨js2, trivial, fun w9 => absurd w9 (by decide), fun _ => trivial⟩
theorem h_X11_closest_b40 {s0 : Sg} (n : Nat) : ∀ (v1 : Int32) (v2 : Int32) (v3 : Int32) (v4 : Int32) (s : Sg), JC 47890485652059026823698344598447161988085597569286144 s0 s → (-1) ≤ v2.toInt ∧ v2.toInt ≤ 7 → 0 ≤ v4.toInt ∧ v4.toInt ≤ 8 → 8 - v4.toInt < (n : Int) → OQ (f_X11_closest_b40 n v1 v2 v3 v4 s) (fun r9 s9 => JC 47890485652059026823698344598447161988085597569286144 s0 s9 ∧ True ∧ (r9 = 0 → True) ∧ (¬ r9 = 0 → True)) := by
  induction n with
  | zero => intro v1 v2 v3 v4 s hJ p_v2 p_v4 hn; exact False.elim (by have g0 := hn; have g1 := p_v2; have g2 := p_v4; have g3 := i_rg v1; have g4 := i_rg v2; have g5 := i_rg v3; have g6 := i_rg v4; omega)
  | succ n ih =>
    intro v1 v2 v3 v4 s hJ p_v2 p_v4 hn
    unfold f_X11_closest_b40
    refine oq_if (fun c1 => ?_) (fun c1 => ?_)
    · refine oq_b (h_X11_answerIfAny _ hJ.1 (by have f0 := p_v2; have f1 := i_rg v2; omega)) (fun r8 s9 hs9 => ?_)
      have js9 : JC 47890485652059026823698344598447161988085597569286144 s0 s9 := j_call hJ hs9.1 rfl
      exact ⟨js9, trivial, fun _ => trivial, fun _ => trivial⟩
    · refine oq_b (h_X11_has _ _ hJ.1 (by have f0 := p_v4; have f1 := i_rg v4; have f2 := i_nle c1; have f3 := j_rd hJ 25 14 0 8 rfl; omega)) (fun r10 s11 hs11 => ?_)
      have js11 : JC 47890485652059026823698344598447161988085597569286144 s0 s11 := j_call hJ hs11.1 rfl
      refine oq_if (fun c2 => ?_) (fun c2 => ?_)
      · exact ih _ _ _ _ _ js11 (by have f0 := p_v2; have f1 := i_rg v2; omega) (by have f0 := i_add (v4) ((1 : Int32)); have f1 := p_v4; have f2 := i_rg v4; have f3 : (1 : Int32).toInt = 1 := rfl; have f4 := i_nle c1; have f5 := j_rd hJ 25 14 0 8 rfl; omega) (by have g0 := i_add (v4) ((1 : Int32)); have g1 := i_rg v1; have g2 := p_v2; have g3 := i_rg v2; have g4 := i_rg v3; have g5 := p_v4; have g6 := i_rg v4; have g7 : (1 : Int32).toInt = 1 := rfl; have g8 := i_nle c1; have g9 := j_rd hJ 25 14 0 8 rfl; have g10 := hn; omega)
      · refine oq_b (h_X0_lackOf_25_26 _ js11.1 (by have f0 := i_and (v4) ((31 : Int32)) (by decide); have f1 := i_sh (v4) (by have f0 := p_v4; have f1 := i_rg v4; have f2 := i_nle c1; have f3 := j_rd hJ 25 14 0 8 rfl; omega); have f2 : (1 : Int32).toInt = 1 := rfl; have f3 := p_v4; have f4 := i_rg v4; have f5 : (31 : Int32).toInt = 31 := rfl; have f6 := i_nle c1; have f7 := j_rd hJ 25 14 0 8 rfl; omega)) (fun r12 s13 hs13 => ?_)
        have js13 : JC 47890485652059026823698344598447161988085597569286144 s0 s13 := j_call js11 hs13.1 rfl
        refine oq_if (fun c3 => ?_) (fun c3 => ?_)
        · exact ih _ _ _ _ _ js13 (by have f0 := p_v4; have f1 := i_rg v4; have f2 := i_nle c1; have f3 := j_rd hJ 25 14 0 8 rfl; omega) (by have f0 := i_add (v4) ((1 : Int32)); have f1 := p_v4; have f2 := i_rg v4; have f3 : (1 : Int32).toInt = 1 := rfl; have f4 := i_nle c1; have f5 := j_rd hJ 25 14 0 8 rfl; omega) (by have g0 := i_add (v4) ((1 : Int32)); have g1 := i_rg v1; have g2 := p_v4; have g3 := i_rg v4; have g4 := i_rg r12; have g5 : (1 : Int32).toInt = 1 := rfl; have g6 := i_nle c1; have g7 := j_rd hJ 25 14 0 8 rfl; have g8 := hn; omega)
        · refine oq_if (fun c4 => ?_) (fun c4 => ?_)
          · exact ih _ _ _ _ _ js13 (by have f0 := p_v2; have f1 := i_rg v2; have f2 := i_ne c3; have f3 : ((-1) : Int32).toInt = (-1) := rfl; omega) (by have f0 := i_add (v4) ((1 : Int32)); have f1 := p_v4; have f2 := i_rg v4; have f3 : (1 : Int32).toInt = 1 := rfl; have f4 := i_nle c1; have f5 := j_rd hJ 25 14 0 8 rfl; omega) (by have g0 := i_add (v4) ((1 : Int32)); have g1 := i_rg v1; have g2 := p_v2; have g3 := i_rg v2; have g4 := i_rg v3; have g5 := p_v4; have g6 := i_rg v4; have g7 : (1 : Int32).toInt = 1 := rfl; have g8 := i_nle c1; have g9 := i_ne c3; have g10 := i_le c4; have g11 := j_rd hJ 25 14 0 8 rfl; have g12 : ((-1) : Int32).toInt = (-1) := rfl; have g13 := i_rg r12; have g14 := hn; omega)
          · exact ih _ _ _ _ _ js13 (by have f0 := p_v4; have f1 := i_rg v4; have f2 := i_nle c1; have f3 := j_rd hJ 25 14 0 8 rfl; omega) (by have f0 := i_add (v4) ((1 : Int32)); have f1 := p_v4; have f2 := i_rg v4; have f3 : (1 : Int32).toInt = 1 := rfl; have f4 := i_nle c1; have f5 := j_rd hJ 25 14 0 8 rfl; omega) (by have g0 := i_add (v4) ((1 : Int32)); have g1 := i_rg v1; have g2 := p_v4; have g3 := i_rg v4; have g4 := i_rg r12; have g5 : (1 : Int32).toInt = 1 := rfl; have g6 := i_nle c1; have g7 := i_nle c4; have g8 := j_rd hJ 25 14 0 8 rfl; have g9 := i_rg v3; have g10 := hn; omega)
theorem h_X11_closest  {s : Sg} (hR : Rg rC s) : OQ (f_X11_closest  s) (fun r9 s9 => JC 47890485652059026823698344598447161988085597569286144 s s9 ∧ True ∧ (r9 = 0 → True) ∧ (¬ r9 = 0 → True)) := by
  have hJ : JC 47890485652059026823698344598447161988085597569286144 s s := j_refl hR
  unfold f_X11_closest
  refine oq_b (h_X4_allQuarrels  hJ.1) (fun r1 s2 hs2 => ?_)
  have js2 : JC 47890485652059026823698344598447161988085597569286144 s s2 := j_call hJ hs2.1 rfl
  refine oq_b (h_X9_atPeace_26_25 _ js2.1 (by have f0 : ((-1) : Int32).toInt = (-1) := rfl; omega)) (fun r3 s4 hs4 => ?_)
  have js4 : JC 47890485652059026823698344598447161988085597569286144 s s4 := j_call js2 hs4.1 rfl
  refine oq_b (h_X4_withoutHope  js4.1) (fun r5 s6 hs6 => ?_)
  have js6 : JC 47890485652059026823698344598447161988085597569286144 s s6 := j_call js4 hs6.1 rfl
  refine oq_n (fun x7 ex7 => ?_)
  exact h_X11_closest_b40 BIG _ _ _ _ _ js6 (by have f0 : ((-1) : Int32).toInt = (-1) := rfl; omega) (by have f0 : (0 : Int32).toInt = 0 := rfl; omega) (by have g0 := i_eq ex7; have g1 := i_rg x7; have g2 : ((-1) : Int32).toInt = (-1) := rfl; have g3 : (0 : Int32).toInt = 0 := rfl; have g4 := hs2.2.1; have g5 := i_rg r1; have g6 := i_rg r3; have g7 := i_rg r5; have g8 : BIG = 4294967296 := rfl; omega)
theorem h_X0_moved_25_26_b67 {s0 : Sg} (n : Nat) : ∀ (v3 : Int32) (v4 : Int32) (v5 : Int32) (v6 : Int32) (v7 : Int32) (v8 : Int32) (s : Sg), JC 0 s0 s → 0 ≤ v8.toInt ∧ v8.toInt ≤ 8 → ¬ v3 = 0 → 8 - v8.toInt < (n : Int) → OQ (f_X0_moved_25_26_b67 n v3 v4 v5 v6 v7 v8 s) (fun r9 s9 => JC 0 s0 s9 ∧ True ∧ (r9 = 0 → True) ∧ (¬ r9 = 0 → True)) := by
  induction n with
  | zero => intro v3 v4 v5 v6 v7 v8 s hJ p_v8 x_1 hn; exact False.elim (by have g0 := hn; have g1 := p_v8; have g2 := i_rg v3; have g3 := i_rg v4; have g4 := i_rg v5; have g5 := i_rg v6; have g6 := i_rg v7; have g7 := i_rg v8; omega)
  | succ n ih =>
    intro v3 v4 v5 v6 v7 v8 s hJ p_v8 x_1 hn
    unfold f_X0_moved_25_26_b67
    refine oq_if (fun c1 => ?_) (fun c1 => ?_)
    · refine oq_c x_1 ?_
      exact ⟨hJ, trivial, fun _ => trivial, fun _ => trivial⟩
    · refine oq_b (h_X4_isGone _ hJ.1 (by have f0 := p_v8; have f1 := i_rg v8; have f2 := i_nle c1; have f3 := j_rd hJ 25 13 0 8 rfl; omega)) (fun r3 s4 hs4 => ?_)
      have js4 : JC 0 s0 s4 := j_call hJ hs4.1 rfl
      refine oq_if (fun c2 => ?_) (fun c2 => ?_)
      · refine oq_b (h_X2_lying _ js4.1 (by have f0 := p_v8; have f1 := i_rg v8; have f2 := i_nle c1; have f3 := j_rd hJ 25 13 0 8 rfl; omega)) (fun r5 s6 hs6 => ?_)
        have js6 : JC 0 s0 s6 := j_call js4 hs6.1 rfl
        refine oq_if (fun c3 => ?_) (fun c3 => ?_)
        · exact ih _ _ _ _ _ _ _ js6 (by have f0 := i_add (v8) ((1 : Int32)); have f1 := p_v8; have f2 := i_rg v8; have f3 : (1 : Int32).toInt = 1 := rfl; have f4 := i_nle c1; have f5 := j_rd hJ 25 13 0 8 rfl; omega) x_1 (by have g0 := i_add (v8) ((1 : Int32)); have g1 := i_rg v3; have g2 := i_rg v4; have g3 := i_rg v5; have g4 := i_rg v6; have g5 := i_rg v7; have g6 := p_v8; have g7 := i_rg v8; have g8 : (1 : Int32).toInt = 1 := rfl; have g9 := i_ne x_1; have g10 := i_nle c1; have g11 := i_le c3; have g12 : (0 : Int32).toInt = 0 := rfl; have g13 := j_rd hJ 25 13 0 8 rfl; have g14 := i_rg r5; have g15 := hn; omega)
        · refine oq_b (h_X2_lying _ js6.1 (by have f0 := p_v8; have f1 := i_rg v8; have f2 := i_nle c1; have f3 := j_rd hJ 25 13 0 8 rfl; omega)) (fun r7 s8 hs8 => ?_)
          have js8 : JC 0 s0 s8 := j_call js6 hs8.1 rfl
          exact ih _ _ _ _ _ _ _ js8 (by have f0 := i_add (v8) ((1 : Int32)); have f1 := p_v8; have f2 := i_rg v8; have f3 : (1 : Int32).toInt = 1 := rfl; have f4 := i_nle c1; have f5 := j_rd hJ 25 13 0 8 rfl; omega) x_1 (by have g0 := i_sub (r7) (v5); have g1 := i_add (v6) (r7 - v5); have g2 := i_add (v7) ((1 : Int32)); have g3 := i_add (v8) ((1 : Int32)); have g4 := i_rg v3; have g5 := i_rg v4; have g6 := i_rg v5; have g7 := i_rg v6; have g8 := i_rg r7; have g9 := i_rg v7; have g10 : (1 : Int32).toInt = 1 := rfl; have g11 := p_v8; have g12 := i_rg v8; have g13 := i_ne x_1; have g14 := i_nle c1; have g15 := i_nle c3; have g16 : (0 : Int32).toInt = 0 := rfl; have g17 := j_rd hJ 25 13 0 8 rfl; have g18 := i_rg r5; have g19 := hn; omega)
      · exact ih _ _ _ _ _ _ _ js4 (by have f0 := i_add (v8) ((1 : Int32)); have f1 := p_v8; have f2 := i_rg v8; have f3 : (1 : Int32).toInt = 1 := rfl; have f4 := i_nle c1; have f5 := j_rd hJ 25 13 0 8 rfl; omega) x_1 (by have g0 := i_add (v8) ((1 : Int32)); have g1 := i_rg v3; have g2 := i_rg v4; have g3 := i_rg v5; have g4 := i_rg v6; have g5 := i_rg v7; have g6 := p_v8; have g7 := i_rg v8; have g8 : (1 : Int32).toInt = 1 := rfl; have g9 := i_ne x_1; have g10 := i_nle c1; have g11 : (0 : Int32).toInt = 0 := rfl; have g12 := j_rd hJ 25 13 0 8 rfl; have g13 := hn; omega)
theorem h_X0_moved_25_26_b8 {s0 : Sg} (n : Nat) : ∀ (v3 : Int32) (v4 : Int32) (v5 : Int32) (s : Sg), JC 0 s0 s → 0 ≤ v5.toInt ∧ v5.toInt ≤ 8 → 8 - v5.toInt < (n : Int) → OQ (f_X0_moved_25_26_b8 n v3 v4 v5 s) (fun r9 s9 => JC 0 s0 s9 ∧ True ∧ (r9 = 0 → True) ∧ (¬ r9 = 0 → True)) := by
  induction n with
  | zero => intro v3 v4 v5 s hJ p_v5 hn; exact False.elim (by have g0 := hn; have g1 := p_v5; have g2 := i_rg v3; have g3 := i_rg v4; have g4 := i_rg v5; omega)
  | succ n ih =>
    intro v3 v4 v5 s hJ p_v5 hn
    unfold f_X0_moved_25_26_b8
    refine oq_if (fun c1 => ?_) (fun c1 => ?_)
    · refine oq_if (fun c2 => ?_) (fun c2 => ?_)
      · exact ⟨hJ, trivial, fun _ => trivial, fun w9 => absurd rfl w9⟩
      · refine oq_c c2 ?_
        exact h_X0_moved_25_26_b67 BIG _ _ _ _ _ _ _ hJ (by have f0 : (0 : Int32).toInt = 0 := rfl; omega) c2 (by have g0 := i_rg v3; have g1 := i_rg v4; have g2 : (0 : Int32).toInt = 0 := rfl; have g3 := i_ne c2; have g4 : BIG = 4294967296 := rfl; omega)
    · refine oq_b (h_X4_isGone _ hJ.1 (by have f0 := p_v5; have f1 := i_rg v5; have f2 := i_nle c1; have f3 := j_rd hJ 25 13 0 8 rfl; omega)) (fun r9 s10 hs10 => ?_)
      have js10 : JC 0 s0 s10 := j_call hJ hs10.1 rfl
      refine oq_if (fun c3 => ?_) (fun c3 => ?_)
      · refine oq_b (h_X2_lying _ js10.1 (by have f0 := p_v5; have f1 := i_rg v5; have f2 := i_nle c1; have f3 := j_rd hJ 25 13 0 8 rfl; omega)) (fun r11 s12 hs12 => ?_)
        have js12 : JC 0 s0 s12 := j_call js10 hs12.1 rfl
        exact ih _ _ _ _ js12 (by have f0 := i_add (v5) ((1 : Int32)); have f1 := p_v5; have f2 := i_rg v5; have f3 : (1 : Int32).toInt = 1 := rfl; have f4 := i_nle c1; have f5 := j_rd hJ 25 13 0 8 rfl; omega) (by have g0 := i_add (v3) ((1 : Int32)); have g1 := i_add (v4) (r11); have g2 := i_add (v5) ((1 : Int32)); have g3 := i_rg v3; have g4 : (1 : Int32).toInt = 1 := rfl; have g5 := i_rg v4; have g6 := i_rg r11; have g7 := p_v5; have g8 := i_rg v5; have g9 := i_nle c1; have g10 := j_rd hJ 25 13 0 8 rfl; have g11 := hn; omega)
      · exact ih _ _ _ _ js10 (by have f0 := i_add (v5) ((1 : Int32)); have f1 := p_v5; have f2 := i_rg v5; have f3 : (1 : Int32).toInt = 1 := rfl; have f4 := i_nle c1; have f5 := j_rd hJ 25 13 0 8 rfl; omega) (by have g0 := i_add (v5) ((1 : Int32)); have g1 := i_rg v3; have g2 := i_rg v4; have g3 := p_v5; have g4 := i_rg v5; have g5 : (1 : Int32).toInt = 1 := rfl; have g6 := i_nle c1; have g7 := j_rd hJ 25 13 0 8 rfl; have g8 := hn; omega)
theorem h_X0_moved_25_26  {s : Sg} (hR : Rg rC s) : OQ (f_X0_moved_25_26  s) (fun r9 s9 => JC 0 s s9 ∧ True ∧ (r9 = 0 → True) ∧ (¬ r9 = 0 → True)) := by
  have hJ : JC 0 s s := j_refl hR
  unfold f_X0_moved_25_26
  exact h_X0_moved_25_26_b8 BIG _ _ _ _ hJ (by have f0 : (0 : Int32).toInt = 0 := rfl; omega) (by have g0 : (0 : Int32).toInt = 0 := rfl; have g1 : BIG = 4294967296 := rfl; omega)
theorem h_X11_level  {s : Sg} (hR : Rg rC s) : OQ (f_X11_level  s) (fun r9 s9 => JC 47890485652059026823698344598447161988085597568237568 s s9 ∧ True ∧ (r9 = 0 → True) ∧ (¬ r9 = 0 → True)) := by
  have hJ : JC 47890485652059026823698344598447161988085597568237568 s s := j_refl hR
  unfold f_X11_level
  refine oq_b (h_X0_moved_25_26  hJ.1) (fun r1 s2 hs2 => ?_)
  have js2 : JC 47890485652059026823698344598447161988085597568237568 s s2 := j_call hJ hs2.1 rfl
  refine oq_b (h_X11_answer _ js2.1) (fun r3 s4 hs4 => ?_)
  have js4 : JC 47890485652059026823698344598447161988085597568237568 s s4 := j_call js2 hs4.1 rfl
  exact ⟨js4, trivial, fun _ => trivial, fun _ => trivial⟩
theorem h_X2_hasSnow_25_53_b2 {s0 : Sg} (n : Nat) : ∀ (v2 : Int32) (v3 : Int32) (s : Sg), JC 0 s0 s → 0 ≤ v2.toInt ∧ v2.toInt ≤ 300 → 0 ≤ v3.toInt ∧ v3.toInt ≤ 8 → 8 - v3.toInt < (n : Int) → OQ (f_X2_hasSnow_25_53_b2 n v2 v3 s) (fun r9 s9 => JC 0 s0 s9 ∧ (0 ≤ r9.toInt ∧ r9.toInt ≤ 1) ∧ (r9 = 0 → True) ∧ (¬ r9 = 0 → True)) := by
  induction n with
  | zero => intro v2 v3 s hJ p_v2 p_v3 hn; exact False.elim (by have g0 := hn; have g1 := p_v2; have g2 := p_v3; have g3 := i_rg v2; have g4 := i_rg v3; omega)
  | succ n ih =>
    intro v2 v3 s hJ p_v2 p_v3 hn
    unfold f_X2_hasSnow_25_53_b2
    refine oq_if (fun c1 => ?_) (fun c1 => ?_)
    · exact ⟨hJ, (by have f0 : (0 : Int32).toInt = 0 := rfl; omega), fun _ => trivial, fun w9 => absurd rfl w9⟩
    · refine oq_b (h_X11_has _ _ hJ.1 (by have f0 := p_v3; have f1 := i_rg v3; have f2 := i_nle c1; have f3 := j_rd hJ 25 13 0 8 rfl; omega)) (fun r1 s2 hs2 => ?_)
      have js2 : JC 0 s0 s2 := j_call hJ hs2.1 rfl
      refine oq_if (fun c2 => ?_) (fun c2 => ?_)
      · exact ih _ _ _ js2 (by have f0 := p_v2; have f1 := i_rg v2; omega) (by have f0 := i_add (v3) ((1 : Int32)); have f1 := p_v3; have f2 := i_rg v3; have f3 : (1 : Int32).toInt = 1 := rfl; have f4 := i_nle c1; have f5 := j_rd hJ 25 13 0 8 rfl; omega) (by have g0 := i_add (v3) ((1 : Int32)); have g1 := p_v2; have g2 := i_rg v2; have g3 := p_v3; have g4 := i_rg v3; have g5 : (1 : Int32).toInt = 1 := rfl; have g6 := i_nle c1; have g7 := j_rd hJ 25 13 0 8 rfl; have g8 := hn; omega)
      · refine oq_c (inr_of (by have f0 := p_v3; have f1 := i_rg v3; have f2 := i_nle c1; have f3 := j_rd hJ 25 13 0 8 rfl; omega)) ?_
        refine oq_if (fun c3 => ?_) (fun c3 => ?_)
        · exact ih _ _ _ js2 (by have f0 := p_v2; have f1 := i_rg v2; omega) (by have f0 := i_add (v3) ((1 : Int32)); have f1 := p_v3; have f2 := i_rg v3; have f3 : (1 : Int32).toInt = 1 := rfl; have f4 := i_nle c1; have f5 := j_rd hJ 25 13 0 8 rfl; omega) (by have g0 := i_add (v3) ((1 : Int32)); have g1 := p_v2; have g2 := i_rg v2; have g3 := p_v3; have g4 := i_rg v3; have g5 : (1 : Int32).toInt = 1 := rfl; have g6 := i_nle c1; have g7 := j_rd hJ 25 13 0 8 rfl; have g8 := hn; omega)
        · exact ⟨js2, (by have f0 : (1 : Int32).toInt = 1 := rfl; omega), fun w9 => absurd w9 (by decide), fun _ => trivial⟩
theorem h_X2_hasSnow_25_53 (a2 : Int32) {s : Sg} (hR : Rg rC s) (p_a2 : 0 ≤ a2.toInt ∧ a2.toInt ≤ 300) : OQ (f_X2_hasSnow_25_53 a2 s) (fun r9 s9 => JC 0 s s9 ∧ (0 ≤ r9.toInt ∧ r9.toInt ≤ 1) ∧ (r9 = 0 → True) ∧ (¬ r9 = 0 → True)) := by
  have hJ : JC 0 s s := j_refl hR
  unfold f_X2_hasSnow_25_53
  exact h_X2_hasSnow_25_53_b2 BIG _ _ _ hJ (by have f0 := p_a2; have f1 := i_rg a2; omega) (by have f0 : (0 : Int32).toInt = 0 := rfl; omega) (by have g0 := p_a2; have g1 := i_rg a2; have g2 : (0 : Int32).toInt = 0 := rfl; have g3 : BIG = 4294967296 := rfl; omega)
theorem h_X11_nightsTillThawed_b7 {s0 : Sg} (n : Nat) : ∀ (v1 : Int32) (v3 : Int32) (s : Sg), JC 4574801537479223541760 s0 s → 0 ≤ v1.toInt ∧ v1.toInt ≤ 300 → 0 ≤ v3.toInt ∧ v3.toInt ≤ 61 → 61 - v3.toInt < (n : Int) → OQ (f_X11_nightsTillThawed_b7 n v1 v3 s) (fun r9 s9 => JC 4574801537479223541760 s0 s9 ∧ ((-1) ≤ r9.toInt ∧ r9.toInt ≤ 60) ∧ (r9 = 0 → True) ∧ (¬ r9 = 0 → True)) := by
  induction n with
  | zero => intro v1 v3 s hJ p_v1 p_v3 hn; exact False.elim (by have g0 := hn; have g1 := p_v1; have g2 := p_v3; have g3 := i_rg v1; have g4 := i_rg v3; omega)
  | succ n ih =>
    intro v1 v3 s hJ p_v1 p_v3 hn
    unfold f_X11_nightsTillThawed_b7
    refine oq_if (fun c1 => ?_) (fun c1 => ?_)
    · exact ⟨hJ, (by have f0 : ((-1) : Int32).toInt = (-1) := rfl; omega), fun w9 => absurd w9 (by decide), fun _ => trivial⟩
    · refine oq_b (h_X2_hasSnow_25_53 _ hJ.1 (by have f0 := p_v1; have f1 := i_rg v1; omega)) (fun r3 s4 hs4 => ?_)
      have js4 : JC 4574801537479223541760 s0 s4 := j_call hJ hs4.1 rfl
      refine oq_if (fun c2 => ?_) (fun c2 => ?_)
      · exact ⟨js4, (by have f0 := p_v3; have f1 := i_rg v3; have f2 := i_nlt c1; have f3 : (60 : Int32).toInt = 60 := rfl; omega), fun _ => trivial, fun _ => trivial⟩
      · refine oq_b (h_X2_passNight_25_53  js4.1) (fun u3 s6 hs6 => ?_)
        have js6 : JC 4574801537479223541760 s0 s6 := j_call js4 hs6.1 rfl
        exact ih _ _ _ js6 (by have f0 := p_v1; have f1 := i_rg v1; omega) (by have f0 := i_add (v3) ((1 : Int32)); have f1 := p_v3; have f2 := i_rg v3; have f3 : (1 : Int32).toInt = 1 := rfl; have f4 := i_nlt c1; have f5 : (60 : Int32).toInt = 60 := rfl; omega) (by have g0 := i_add (v3) ((1 : Int32)); have g1 := p_v1; have g2 := i_rg v1; have g3 := p_v3; have g4 := i_rg v3; have g5 : (1 : Int32).toInt = 1 := rfl; have g6 := i_nlt c1; have g7 : (60 : Int32).toInt = 60 := rfl; have g8 := hn; omega)
theorem h_X11_nightsTillThawed (a1 : Int32) {s : Sg} (hR : Rg rC s) (p_a1 : 0 ≤ a1.toInt ∧ a1.toInt ≤ 300) : OQ (f_X11_nightsTillThawed a1 s) (fun r9 s9 => JC 4574801537479223541760 s s9 ∧ ((-1) ≤ r9.toInt ∧ r9.toInt ≤ 60) ∧ (r9 = 0 → True) ∧ (¬ r9 = 0 → True)) := by
  have hJ : JC 4574801537479223541760 s s := j_refl hR
  unfold f_X11_nightsTillThawed
  refine oq_b (h_X2_copyFrom_26_53  hJ.1) (fun u1 s2 hs2 => ?_)
  have js2 : JC 4574801537479223541760 s s2 := j_call hJ hs2.1 rfl
  exact h_X11_nightsTillThawed_b7 BIG _ _ _ js2 (by have f0 := p_a1; have f1 := i_rg a1; omega) (by have f0 : (0 : Int32).toInt = 0 := rfl; omega) (by have g0 := p_a1; have g1 := i_rg a1; have g2 : (0 : Int32).toInt = 0 := rfl; have g3 : BIG = 4294967296 := rfl; omega)
theorem h_X11_thaw (a1 : Int32) {s : Sg} (hR : Rg rC s) : OQ (f_X11_thaw a1 s) (fun r9 s9 => JC 47890485652059026823698344598451736789623076791779328 s s9 ∧ True ∧ (r9 = 0 → 0 ≤ (a1).toInt ∧ (a1).toInt ≤ 7) ∧ (¬ r9 = 0 → True)) := by
  have hJ : JC 47890485652059026823698344598451736789623076791779328 s s := j_refl hR
  unfold f_X11_thaw
  refine oq_b (h_X11_whyNoStep _ _ hJ.1 (by have f0 : (1 : Int32).toInt = 1 := rfl; omega)) (fun r1 s2 hs2 => ?_)
  have js2 : JC 47890485652059026823698344598451736789623076791779328 s s2 := j_call hJ hs2.1 rfl
  refine oq_if (fun c1 => ?_) (fun c1 => ?_)
  · refine oq_b (h_X11_nightsTillThawed _ js2.1 (by have f0 := i_and (a1) ((31 : Int32)) (by decide); have f1 := i_sh (a1) (by have f0 := i_rg a1; have f1 := (hs2.2.2.1 c1).1; have f2 := (hs2.2.2.1 c1).2.1; have f3 := (hs2.2.2.1 c1).2.2; have f4 : (0 : Int32).toInt = 0 := rfl; have f5 : (7 : Int32).toInt = 7 := rfl; have f6 : (1 : Int32).toInt = 1 := rfl; omega); have f2 : (1 : Int32).toInt = 1 := rfl; have f3 := i_rg a1; have f4 : (31 : Int32).toInt = 31 := rfl; have f5 := (hs2.2.2.1 c1).1; have f6 := (hs2.2.2.1 c1).2.1; have f7 := (hs2.2.2.1 c1).2.2; have f8 : (0 : Int32).toInt = 0 := rfl; have f9 : (7 : Int32).toInt = 7 := rfl; omega)) (fun r3 s4 hs4 => ?_)
    have js4 : JC 47890485652059026823698344598451736789623076791779328 s s4 := j_call js2 hs4.1 rfl
    refine oq_b (h_X11_answerIfAny _ js4.1 (by have f0 := hs4.2.1; have f1 := i_rg r3; have f2 := (hs2.2.2.1 c1).2.2; have f3 : (1 : Int32).toInt = 1 := rfl; omega)) (fun r5 s6 hs6 => ?_)
    have js6 : JC 47890485652059026823698344598451736789623076791779328 s s6 := j_call js4 hs6.1 rfl
    exact ⟨js6, trivial, fun w9 => ⟨(by have f0 : (0 : Int32).toInt = 0 := rfl; have f1 := i_rg a1; have f2 := (hs2.2.2.1 c1).1; have f3 := (hs2.2.2.1 c1).2.1; have f4 := (hs2.2.2.1 c1).2.2; have f5 : (7 : Int32).toInt = 7 := rfl; have f6 : (1 : Int32).toInt = 1 := rfl; omega), (by have f0 := i_rg a1; have f1 : (7 : Int32).toInt = 7 := rfl; have f2 := (hs2.2.2.1 c1).1; have f3 := (hs2.2.2.1 c1).2.1; have f4 := (hs2.2.2.1 c1).2.2; have f5 : (0 : Int32).toInt = 0 := rfl; have f6 : (1 : Int32).toInt = 1 := rfl; omega)⟩, fun _ => trivial⟩
  · refine oq_b (h_X11_refuse _ js2.1 (by have f0 := hs2.2.1; have f1 := i_rg r1; have f2 := i_ne c1; have f3 : (0 : Int32).toInt = 0 := rfl; omega)) (fun r7 s8 hs8 => ?_)
    have js8 : JC 47890485652059026823698344598451736789623076791779328 s s8 := j_call js2 hs8.1 rfl
    exact ⟨js8, trivial, fun w9 => False.elim (by have f0 := hs8.2.1; have f1 := i_rg r7; have f2 := i_eq w9; have f3 : (0 : Int32).toInt = 0 := rfl; omega), fun _ => trivial⟩
theorem h_X4_allHouses  {s : Sg} (hR : Rg rC s) : OQ (f_X4_allHouses  s) (fun r9 s9 => JC 0 s s9 ∧ (0 ≤ r9.toInt ∧ r9.toInt ≤ 255) ∧ (r9 = 0 → True) ∧ (¬ r9 = 0 → True)) := by
  have hJ : JC 0 s s := j_refl hR
  unfold f_X4_allHouses
  exact ⟨hJ, (by have f0 := i_and (s.1 25 13) ((31 : Int32)) (by decide); have f1 := i_sh (s.1 25 13) (by have f0 := j_rd hJ 25 13 0 8 rfl; omega); have f2 := i_sub ((1 : Int32) <<< ((s.1 25 13) &&& 31)) ((1 : Int32)); have f3 : (1 : Int32).toInt = 1 := rfl; have f4 := j_rd hJ 25 13 0 8 rfl; have f5 : (31 : Int32).toInt = 31 := rfl; omega), fun _ => trivial, fun _ => trivial⟩
theorem h_X11_thawAll  {s : Sg} (hR : Rg rC s) : OQ (f_X11_thawAll  s) (fun r9 s9 => JC 47890485652059026823698344598451736789623076791779328 s s9 ∧ True ∧ (r9 = 0 → True) ∧ (¬ r9 = 0 → True)) := by
  have hJ : JC 47890485652059026823698344598451736789623076791779328 s s := j_refl hR
  unfold f_X11_thawAll
  refine oq_b (h_X4_allHouses  hJ.1) (fun r1 s2 hs2 => ?_)
  have js2 : JC 47890485652059026823698344598451736789623076791779328 s s2 := j_call hJ hs2.1 rfl
  refine oq_b (h_X11_nightsTillThawed _ js2.1 (by have f0 := hs2.2.1; have f1 := i_rg r1; omega)) (fun r3 s4 hs4 => ?_)
  have js4 : JC 47890485652059026823698344598451736789623076791779328 s s4 := j_call js2 hs4.1 rfl
  refine oq_b (h_X11_answerIfAny _ js4.1 (by have f0 := hs4.2.1; have f1 := i_rg r3; omega)) (fun r5 s6 hs6 => ?_)
  have js6 : JC 47890485652059026823698344598451736789623076791779328 s s6 := j_call js4 hs6.1 rfl
  exact ⟨js6, trivial, fun _ => trivial, fun _ => trivial⟩
theorem h_X11_wants (a1 : Int32) {s : Sg} (hR : Rg rC s) : OQ (f_X11_wants a1 s) (fun r9 s9 => JC 47890485652059026823698344598447161988085597568237568 s s9 ∧ True ∧ (r9 = 0 → 0 ≤ (a1).toInt ∧ (a1).toInt ≤ 7) ∧ (¬ r9 = 0 → True)) := by
  have hJ : JC 47890485652059026823698344598447161988085597568237568 s s := j_refl hR
  unfold f_X11_wants
  refine oq_b (h_X11_whyNoStep _ _ hJ.1 (by have f0 : (1 : Int32).toInt = 1 := rfl; omega)) (fun r1 s2 hs2 => ?_)
  have js2 : JC 47890485652059026823698344598447161988085597568237568 s s2 := j_call hJ hs2.1 rfl
  refine oq_if (fun c1 => ?_) (fun c1 => ?_)
  · refine oq_b (h_X9_wantedAt_26_25 _ js2.1 (by have f0 := i_rg a1; have f1 := (hs2.2.2.1 c1).1; have f2 := (hs2.2.2.1 c1).2.1; have f3 := (hs2.2.2.1 c1).2.2; have f4 : (0 : Int32).toInt = 0 := rfl; have f5 : (7 : Int32).toInt = 7 := rfl; have f6 : (1 : Int32).toInt = 1 := rfl; omega)) (fun r3 s4 hs4 => ?_)
    have js4 : JC 47890485652059026823698344598447161988085597568237568 s s4 := j_call js2 hs4.1 rfl
    refine oq_b (h_X11_answer _ js4.1) (fun r5 s6 hs6 => ?_)
    have js6 : JC 47890485652059026823698344598447161988085597568237568 s s6 := j_call js4 hs6.1 rfl
    exact ⟨js6, trivial, fun w9 => ⟨(by have f0 : (0 : Int32).toInt = 0 := rfl; have f1 := i_rg a1; have f2 := (hs2.2.2.1 c1).1; have f3 := (hs2.2.2.1 c1).2.1; have f4 := (hs2.2.2.1 c1).2.2; have f5 : (7 : Int32).toInt = 7 := rfl; have f6 : (1 : Int32).toInt = 1 := rfl; omega), (by have f0 := i_rg a1; have f1 : (7 : Int32).toInt = 7 := rfl; have f2 := (hs2.2.2.1 c1).1; have f3 := (hs2.2.2.1 c1).2.1; have f4 := (hs2.2.2.1 c1).2.2; have f5 : (0 : Int32).toInt = 0 := rfl; have f6 : (1 : Int32).toInt = 1 := rfl; omega)⟩, fun _ => trivial⟩
  · refine oq_b (h_X11_refuse _ js2.1 (by have f0 := hs2.2.1; have f1 := i_rg r1; have f2 := i_ne c1; have f3 : (0 : Int32).toInt = 0 := rfl; omega)) (fun r7 s8 hs8 => ?_)
    have js8 : JC 47890485652059026823698344598447161988085597568237568 s s8 := j_call js2 hs8.1 rfl
    exact ⟨js8, trivial, fun w9 => False.elim (by have f0 := hs8.2.1; have f1 := i_rg r7; have f2 := i_eq w9; have f3 : (0 : Int32).toInt = 0 := rfl; omega), fun _ => trivial⟩
theorem h_X11_cliff_b4 {s0 : Sg} (n : Nat) : ∀ (v1 : Int32) (v2 : Int32) (s : Sg), JC 47890485652059026823698344598447161988085597568237568 s0 s → 0 ≤ v1.toInt ∧ v1.toInt ≤ 2147483647 → 0 ≤ v2.toInt ∧ v2.toInt ≤ 7 → 7 - v2.toInt < (n : Int) → OQ (f_X11_cliff_b4 n v1 v2 s) (fun r9 s9 => JC 47890485652059026823698344598447161988085597568237568 s0 s9 ∧ True ∧ (r9 = 0 → True) ∧ (¬ r9 = 0 → True)) := by
  induction n with
  | zero => intro v1 v2 s hJ p_v1 p_v2 hn; exact False.elim (by have g0 := hn; have g1 := p_v1; have g2 := p_v2; have g3 := i_rg v1; have g4 := i_rg v2; omega)
  | succ n ih =>
    intro v1 v2 s hJ p_v1 p_v2 hn
    unfold f_X11_cliff_b4
    refine oq_if (fun c1 => ?_) (fun c1 => ?_)
    · refine oq_b (h_X11_answer _ hJ.1) (fun r1 s2 hs2 => ?_)
      have js2 : JC 47890485652059026823698344598447161988085597568237568 s0 s2 := j_call hJ hs2.1 rfl
      exact ⟨js2, trivial, fun _ => trivial, fun _ => trivial⟩
    · refine oq_b (h_X4_isGone _ hJ.1 (by have f0 := p_v2; have f1 := i_rg v2; have f2 := i_nle c1; have f3 := i_add (v2) ((1 : Int32)); have f4 := j_rd hJ 25 13 0 8 rfl; have f5 : (1 : Int32).toInt = 1 := rfl; omega)) (fun r3 s4 hs4 => ?_)
      have js4 : JC 47890485652059026823698344598447161988085597568237568 s0 s4 := j_call hJ hs4.1 rfl
      refine oq_if (fun c2 => ?_) (fun c2 => ?_)
      · refine oq_b (h_X4_isGone _ js4.1 (by have f0 := i_add (v2) ((1 : Int32)); have f1 := p_v2; have f2 := i_rg v2; have f3 : (1 : Int32).toInt = 1 := rfl; have f4 := i_nle c1; have f5 := j_rd hJ 25 13 0 8 rfl; omega)) (fun r5 s6 hs6 => ?_)
        have js6 : JC 47890485652059026823698344598447161988085597568237568 s0 s6 := j_call js4 hs6.1 rfl
        refine oq_if (fun c3 => ?_) (fun c3 => ?_)
        · refine oq_b (h_X2_lying _ js6.1 (by have f0 := p_v2; have f1 := i_rg v2; have f2 := i_nle c1; have f3 := i_add (v2) ((1 : Int32)); have f4 := j_rd hJ 25 13 0 8 rfl; have f5 : (1 : Int32).toInt = 1 := rfl; omega)) (fun r7 s8 hs8 => ?_)
          have js8 : JC 47890485652059026823698344598447161988085597568237568 s0 s8 := j_call js6 hs8.1 rfl
          refine oq_b (h_X2_lying _ js8.1 (by have f0 := i_add (v2) ((1 : Int32)); have f1 := p_v2; have f2 := i_rg v2; have f3 : (1 : Int32).toInt = 1 := rfl; have f4 := i_nle c1; have f5 := j_rd hJ 25 13 0 8 rfl; omega)) (fun r9 s10 hs10 => ?_)
          have js10 : JC 47890485652059026823698344598447161988085597568237568 s0 s10 := j_call js8 hs10.1 rfl
          refine oq_n (fun x11 ex11 => ?_)
          exact ih _ _ _ js10 (by have f0 := i_eq ex11; have f1 := i_sub (r7) (r9); have f2 := i_sub ((0 : Int32)) (r7 - r9); have f3 := ite_le ((0 : Int32)) (r7 - r9) (r7 - r9) (0 - (r7 - r9)); have f4 := ite_lt (v1) (if 0 ≤ (r7 - r9) then (r7 - r9) else 0 - (r7 - r9)) (if 0 ≤ (r7 - r9) then (r7 - r9) else 0 - (r7 - r9)) (v1); have f5 := i_rg x11; have f6 := p_v1; have f7 := i_rg v1; have f8 : (0 : Int32).toInt = 0 := rfl; have f9 := i_rg r7; have f10 := i_rg r9; omega) (by have f0 := i_add (v2) ((1 : Int32)); have f1 := p_v2; have f2 := i_rg v2; have f3 : (1 : Int32).toInt = 1 := rfl; have f4 := i_nle c1; have f5 := j_rd hJ 25 13 0 8 rfl; omega) (by have g0 := i_add (v2) ((1 : Int32)); have g1 := i_eq ex11; have g2 := i_sub (r7) (r9); have g3 := i_sub ((0 : Int32)) (r7 - r9); have g4 := ite_le ((0 : Int32)) (r7 - r9) (r7 - r9) (0 - (r7 - r9)); have g5 := ite_lt (v1) (if 0 ≤ (r7 - r9) then (r7 - r9) else 0 - (r7 - r9)) (if 0 ≤ (r7 - r9) then (r7 - r9) else 0 - (r7 - r9)) (v1); have g6 := i_rg x11; have g7 := p_v2; have g8 := i_rg v2; have g9 : (1 : Int32).toInt = 1 := rfl; have g10 := p_v1; have g11 := i_rg v1; have g12 : (0 : Int32).toInt = 0 := rfl; have g13 := i_rg r7; have g14 := i_rg r9; have g15 := i_nle c1; have g16 := j_rd hJ 25 13 0 8 rfl; have g17 := hn; omega)
        · exact ih _ _ _ js6 (by have f0 := p_v1; have f1 := i_rg v1; omega) (by have f0 := i_add (v2) ((1 : Int32)); have f1 := p_v2; have f2 := i_rg v2; have f3 : (1 : Int32).toInt = 1 := rfl; have f4 := i_nle c1; have f5 := j_rd hJ 25 13 0 8 rfl; omega) (by have g0 := i_add (v2) ((1 : Int32)); have g1 := p_v1; have g2 := i_rg v1; have g3 := p_v2; have g4 := i_rg v2; have g5 : (1 : Int32).toInt = 1 := rfl; have g6 := i_nle c1; have g7 := j_rd hJ 25 13 0 8 rfl; have g8 := hn; omega)
      · exact ih _ _ _ js4 (by have f0 := p_v1; have f1 := i_rg v1; omega) (by have f0 := i_add (v2) ((1 : Int32)); have f1 := p_v2; have f2 := i_rg v2; have f3 : (1 : Int32).toInt = 1 := rfl; have f4 := i_nle c1; have f5 := j_rd hJ 25 13 0 8 rfl; omega) (by have g0 := i_add (v2) ((1 : Int32)); have g1 := p_v1; have g2 := i_rg v1; have g3 := p_v2; have g4 := i_rg v2; have g5 : (1 : Int32).toInt = 1 := rfl; have g6 := i_nle c1; have g7 := j_rd hJ 25 13 0 8 rfl; have g8 := hn; omega)
theorem h_X11_cliff  {s : Sg} (hR : Rg rC s) : OQ (f_X11_cliff  s) (fun r9 s9 => JC 47890485652059026823698344598447161988085597568237568 s s9 ∧ True ∧ (r9 = 0 → True) ∧ (¬ r9 = 0 → True)) := by
  have hJ : JC 47890485652059026823698344598447161988085597568237568 s s := j_refl hR
  unfold f_X11_cliff
  exact h_X11_cliff_b4 BIG _ _ _ hJ (by have f0 : (0 : Int32).toInt = 0 := rfl; omega) (by have f0 : (0 : Int32).toInt = 0 := rfl; omega) (by have g0 : (0 : Int32).toInt = 0 := rfl; have g1 : BIG = 4294967296 := rfl; omega)
theorem h_X2_looksLike (a1 : Int32) (a2 : Int32) {s : Sg} (hR : Rg rC s) (p_a1 : 0 ≤ a1.toInt ∧ a1.toInt ≤ 7) (p_a2 : 0 ≤ a2.toInt ∧ a2.toInt ≤ 2) : OQ (f_X2_looksLike a1 a2 s) (fun r9 s9 => JC 0 s s9 ∧ (0 ≤ r9.toInt ∧ r9.toInt ≤ 1) ∧ (r9 = 0 → True) ∧ (¬ r9 = 0 → True)) := by
  have hJ : JC 0 s s := j_refl hR
  unfold f_X2_looksLike
  refine oq_if (fun c1 => ?_) (fun c1 => ?_)
  · refine oq_c (inr_of (by have f0 := p_a1; have f1 := i_rg a1; omega)) ?_
    refine oq_if (fun c2 => ?_) (fun c2 => ?_)
    · exact ⟨hJ, (by have f0 : (0 : Int32).toInt = 0 := rfl; omega), fun _ => trivial, fun w9 => absurd rfl w9⟩
    · exact ⟨hJ, (by have f0 : (1 : Int32).toInt = 1 := rfl; omega), fun w9 => absurd w9 (by decide), fun _ => trivial⟩
  · refine oq_if (fun c3 => ?_) (fun c3 => ?_)
    · refine oq_c (inr_of (by have f0 := p_a1; have f1 := i_rg a1; omega)) ?_
      refine oq_if (fun c4 => ?_) (fun c4 => ?_)
      · exact ⟨hJ, (by have f0 : (0 : Int32).toInt = 0 := rfl; omega), fun _ => trivial, fun w9 => absurd rfl w9⟩
      · exact ⟨hJ, (by have f0 : (1 : Int32).toInt = 1 := rfl; omega), fun w9 => absurd w9 (by decide), fun _ => trivial⟩
    · refine oq_c (inr_of (by have f0 := p_a1; have f1 := i_rg a1; omega)) ?_
      refine oq_if (fun c5 => ?_) (fun c5 => ?_)
      · refine oq_b (h_X2_lying _ hJ.1 (by have f0 := p_a1; have f1 := i_rg a1; omega)) (fun r4 s5 hs5 => ?_)
        have js5 : JC 0 s s5 := j_call hJ hs5.1 rfl
        refine oq_if (fun c6 => ?_) (fun c6 => ?_)
        · exact ⟨js5, (by have f0 : (1 : Int32).toInt = 1 := rfl; omega), fun w9 => absurd w9 (by decide), fun _ => trivial⟩
        · exact ⟨js5, (by have f0 : (0 : Int32).toInt = 0 := rfl; omega), fun _ => trivial, fun w9 => absurd rfl w9⟩
      · exact ⟨hJ, (by have f0 : (0 : Int32).toInt = 0 := rfl; omega), fun _ => trivial, fun w9 => absurd rfl w9⟩
theorem h_X11_steps_b19 {s0 : Sg} (n : Nat) : ∀ (v1 : Int32) (v2 : Int32) (v3 : Int32) (s : Sg), JC 47890485652059026823698344598447161988085597568237568 s0 s → 0 ≤ v1.toInt ∧ v1.toInt ≤ 2 → 0 ≤ v3.toInt ∧ v3.toInt ≤ 8 → 8 - v3.toInt < (n : Int) → OQ (f_X11_steps_b19 n v1 v2 v3 s) (fun r9 s9 => JC 47890485652059026823698344598447161988085597568237568 s0 s9 ∧ True ∧ (r9 = 0 → True) ∧ (¬ r9 = 0 → True)) := by
  induction n with
  | zero => intro v1 v2 v3 s hJ p_v1 p_v3 hn; exact False.elim (by have g0 := hn; have g1 := p_v1; have g2 := p_v3; have g3 := i_rg v1; have g4 := i_rg v2; have g5 := i_rg v3; omega)
  | succ n ih =>
    intro v1 v2 v3 s hJ p_v1 p_v3 hn
    unfold f_X11_steps_b19
    refine oq_if (fun c1 => ?_) (fun c1 => ?_)
    · refine oq_b (h_X11_answer _ hJ.1) (fun r5 s6 hs6 => ?_)
      have js6 : JC 47890485652059026823698344598447161988085597568237568 s0 s6 := j_call hJ hs6.1 rfl
      exact ⟨js6, trivial, fun _ => trivial, fun _ => trivial⟩
    · refine oq_b (h_X4_isGone _ hJ.1 (by have f0 := p_v3; have f1 := i_rg v3; have f2 := i_nle c1; have f3 := j_rd hJ 25 13 0 8 rfl; omega)) (fun r7 s8 hs8 => ?_)
      have js8 : JC 47890485652059026823698344598447161988085597568237568 s0 s8 := j_call hJ hs8.1 rfl
      refine oq_if (fun c2 => ?_) (fun c2 => ?_)
      · refine oq_b (h_X2_looksLike _ _ js8.1 (by have f0 := p_v3; have f1 := i_rg v3; have f2 := i_nle c1; have f3 := j_rd hJ 25 13 0 8 rfl; omega) (by have f0 := p_v1; have f1 := i_rg v1; omega)) (fun r9 s10 hs10 => ?_)
        have js10 : JC 47890485652059026823698344598447161988085597568237568 s0 s10 := j_call js8 hs10.1 rfl
        refine oq_if (fun c3 => ?_) (fun c3 => ?_)
        · exact ih _ _ _ _ js10 (by have f0 := p_v1; have f1 := i_rg v1; omega) (by have f0 := i_add (v3) ((1 : Int32)); have f1 := p_v3; have f2 := i_rg v3; have f3 : (1 : Int32).toInt = 1 := rfl; have f4 := i_nle c1; have f5 := j_rd hJ 25 13 0 8 rfl; omega) (by have g0 := i_add (v3) ((1 : Int32)); have g1 := p_v1; have g2 := i_rg v1; have g3 := i_rg v2; have g4 := p_v3; have g5 := i_rg v3; have g6 : (1 : Int32).toInt = 1 := rfl; have g7 := i_nle c1; have g8 := j_rd hJ 25 13 0 8 rfl; have g9 := hn; omega)
        · exact ih _ _ _ _ js10 (by have f0 := p_v1; have f1 := i_rg v1; omega) (by have f0 := i_add (v3) ((1 : Int32)); have f1 := p_v3; have f2 := i_rg v3; have f3 : (1 : Int32).toInt = 1 := rfl; have f4 := i_nle c1; have f5 := j_rd hJ 25 13 0 8 rfl; omega) (by have g0 := i_add (v2) ((1 : Int32)); have g1 := i_add (v3) ((1 : Int32)); have g2 := p_v1; have g3 := i_rg v1; have g4 := i_rg v2; have g5 : (1 : Int32).toInt = 1 := rfl; have g6 := p_v3; have g7 := i_rg v3; have g8 := i_nle c1; have g9 := j_rd hJ 25 13 0 8 rfl; have g10 := hn; omega)
      · exact ih _ _ _ _ js8 (by have f0 := p_v1; have f1 := i_rg v1; omega) (by have f0 := i_add (v3) ((1 : Int32)); have f1 := p_v3; have f2 := i_rg v3; have f3 : (1 : Int32).toInt = 1 := rfl; have f4 := i_nle c1; have f5 := j_rd hJ 25 13 0 8 rfl; omega) (by have g0 := i_add (v3) ((1 : Int32)); have g1 := p_v1; have g2 := i_rg v1; have g3 := i_rg v2; have g4 := p_v3; have g5 := i_rg v3; have g6 : (1 : Int32).toInt = 1 := rfl; have g7 := i_nle c1; have g8 := j_rd hJ 25 13 0 8 rfl; have g9 := hn; omega)
theorem h_X11_steps (a1 : Int32) {s : Sg} (hR : Rg rC s) : OQ (f_X11_steps a1 s) (fun r9 s9 => JC 47890485652059026823698344598447161988085597568237568 s s9 ∧ True ∧ (r9 = 0 → True) ∧ (¬ r9 = 0 → True)) := by
  have hJ : JC 47890485652059026823698344598447161988085597568237568 s s := j_refl hR
  unfold f_X11_steps
  refine oq_b (h_X11_within _ _ _ hJ.1 (by have f0 : (0 : Int32).toInt = 0 := rfl; omega) (by have f0 : (2 : Int32).toInt = 2 := rfl; omega)) (fun r1 s2 hs2 => ?_)
  have js2 : JC 47890485652059026823698344598447161988085597568237568 s s2 := j_call hJ hs2.1 rfl
  refine oq_if (fun c1 => ?_) (fun c1 => ?_)
  · refine oq_b (h_X11_refuse _ js2.1 (by have f0 : (1 : Int32).toInt = 1 := rfl; omega)) (fun r3 s4 hs4 => ?_)
    have js4 : JC 47890485652059026823698344598447161988085597568237568 s s4 := j_call js2 hs4.1 rfl
    exact ⟨js4, trivial, fun w9 => False.elim (by have f0 := hs4.2.1; have f1 := i_rg r3; have f2 := i_eq w9; have f3 : (0 : Int32).toInt = 0 := rfl; omega), fun _ => trivial⟩
  · exact h_X11_steps_b19 BIG _ _ _ _ js2 (by have f0 := i_rg a1; have f1 := (hs2.2.2.2 c1).1; have f2 := (hs2.2.2.2 c1).2.1; have f3 := (hs2.2.2.2 c1).2.2.1; have f4 := (hs2.2.2.2 c1).2.2.2; have f5 : (0 : Int32).toInt = 0 := rfl; have f6 : (2 : Int32).toInt = 2 := rfl; omega) (by have f0 : (0 : Int32).toInt = 0 := rfl; have f1 := (hs2.2.2.2 c1).2.2.2; have f2 : (2 : Int32).toInt = 2 := rfl; omega) (by have g0 := i_rg a1; have g1 : (0 : Int32).toInt = 0 := rfl; have g2 := (hs2.2.2.2 c1).1; have g3 := (hs2.2.2.2 c1).2.1; have g4 := (hs2.2.2.2 c1).2.2.1; have g5 := (hs2.2.2.2 c1).2.2.2; have g6 : (2 : Int32).toInt = 2 := rfl; have g7 : BIG = 4294967296 := rfl; omega)
theorem h_X0_cheapest_25_b4 {s0 : Sg} (n : Nat) : ∀ (v1 : Int32) (v2 : Int32) (v3 : Int32) (s : Sg), JC 0 s0 s → (-1) ≤ v2.toInt ∧ v2.toInt ≤ 3 → 0 ≤ v3.toInt ∧ v3.toInt ≤ 4 → 4 - v3.toInt < (n : Int) → OQ (f_X0_cheapest_25_b4 n v1 v2 v3 s) (fun r9 s9 => JC 0 s0 s9 ∧ ((-1) ≤ r9.toInt ∧ r9.toInt ≤ 3) ∧ (r9 = 0 → True) ∧ (¬ r9 = 0 → True)) := by
  induction n with
  | zero => intro v1 v2 v3 s hJ p_v2 p_v3 hn; exact False.elim (by have g0 := hn; have g1 := p_v2; have g2 := p_v3; have g3 := i_rg v1; have g4 := i_rg v2; have g5 := i_rg v3; omega)
  | succ n ih =>
    intro v1 v2 v3 s hJ p_v2 p_v3 hn
    unfold f_X0_cheapest_25_b4
    refine oq_if (fun c1 => ?_) (fun c1 => ?_)
    · exact ⟨hJ, (by have f0 := p_v2; have f1 := i_rg v2; omega), fun _ => trivial, fun _ => trivial⟩
    · refine oq_b (h_X11_has _ _ hJ.1 (by have f0 := p_v3; have f1 := i_rg v3; have f2 := i_nle c1; have f3 := j_rd hJ 25 16 0 4 rfl; omega)) (fun r1 s2 hs2 => ?_)
      have js2 : JC 0 s0 s2 := j_call hJ hs2.1 rfl
      refine oq_if (fun c2 => ?_) (fun c2 => ?_)
      · refine oq_if (fun c3 => ?_) (fun c3 => ?_)
        · exact ih _ _ _ _ js2 (by have f0 := p_v3; have f1 := i_rg v3; have f2 := i_nle c1; have f3 := j_rd hJ 25 16 0 4 rfl; omega) (by have f0 := i_add (v3) ((1 : Int32)); have f1 := p_v3; have f2 := i_rg v3; have f3 : (1 : Int32).toInt = 1 := rfl; have f4 := i_nle c1; have f5 := j_rd hJ 25 16 0 4 rfl; omega) (by have g0 := i_add (v3) ((1 : Int32)); have g1 := i_rg v1; have g2 := p_v3; have g3 := i_rg v3; have g4 : (1 : Int32).toInt = 1 := rfl; have g5 := i_nle c1; have g6 := j_rd hJ 25 16 0 4 rfl; have g7 := hn; omega)
        · refine oq_c (inr_of (by have f0 := p_v3; have f1 := i_rg v3; have f2 := i_nle c1; have f3 := j_rd hJ 25 16 0 4 rfl; omega)) ?_
          refine oq_c (inr_of (by have f0 := p_v2; have f1 := i_rg v2; have f2 := i_ne c3; have f3 : ((-1) : Int32).toInt = (-1) := rfl; omega)) ?_
          refine oq_if (fun c4 => ?_) (fun c4 => ?_)
          · exact ih _ _ _ _ js2 (by have f0 := p_v2; have f1 := i_rg v2; have f2 := i_ne c3; have f3 : ((-1) : Int32).toInt = (-1) := rfl; omega) (by have f0 := i_add (v3) ((1 : Int32)); have f1 := p_v3; have f2 := i_rg v3; have f3 : (1 : Int32).toInt = 1 := rfl; have f4 := i_nle c1; have f5 := j_rd hJ 25 16 0 4 rfl; omega) (by have g0 := i_add (v3) ((1 : Int32)); have g1 := i_rg v1; have g2 := p_v2; have g3 := i_rg v2; have g4 := p_v3; have g5 := i_rg v3; have g6 : (1 : Int32).toInt = 1 := rfl; have g7 := i_nle c1; have g8 := i_ne c3; have g9 := j_rd hJ 25 16 0 4 rfl; have g10 : ((-1) : Int32).toInt = (-1) := rfl; have g11 := hn; omega)
          · exact ih _ _ _ _ js2 (by have f0 := p_v3; have f1 := i_rg v3; have f2 := i_nle c1; have f3 := j_rd hJ 25 16 0 4 rfl; omega) (by have f0 := i_add (v3) ((1 : Int32)); have f1 := p_v3; have f2 := i_rg v3; have f3 : (1 : Int32).toInt = 1 := rfl; have f4 := i_nle c1; have f5 := j_rd hJ 25 16 0 4 rfl; omega) (by have g0 := i_add (v3) ((1 : Int32)); have g1 := i_rg v1; have g2 := p_v3; have g3 := i_rg v3; have g4 : (1 : Int32).toInt = 1 := rfl; have g5 := i_nle c1; have g6 := j_rd hJ 25 16 0 4 rfl; have g7 := hn; omega)
      · exact ih _ _ _ _ js2 (by have f0 := p_v2; have f1 := i_rg v2; omega) (by have f0 := i_add (v3) ((1 : Int32)); have f1 := p_v3; have f2 := i_rg v3; have f3 : (1 : Int32).toInt = 1 := rfl; have f4 := i_nle c1; have f5 := j_rd hJ 25 16 0 4 rfl; omega) (by have g0 := i_add (v3) ((1 : Int32)); have g1 := i_rg v1; have g2 := p_v2; have g3 := i_rg v2; have g4 := p_v3; have g5 := i_rg v3; have g6 : (1 : Int32).toInt = 1 := rfl; have g7 := i_nle c1; have g8 := j_rd hJ 25 16 0 4 rfl; have g9 := hn; omega)
theorem h_X0_cheapest_25 (a1 : Int32) {s : Sg} (hR : Rg rC s) : OQ (f_X0_cheapest_25 a1 s) (fun r9 s9 => JC 0 s s9 ∧ ((-1) ≤ r9.toInt ∧ r9.toInt ≤ 3) ∧ (r9 = 0 → True) ∧ (¬ r9 = 0 → True)) := by
  have hJ : JC 0 s s := j_refl hR
  unfold f_X0_cheapest_25
  exact h_X0_cheapest_25_b4 BIG _ _ _ _ hJ (by have f0 : ((-1) : Int32).toInt = (-1) := rfl; omega) (by have f0 : (0 : Int32).toInt = 0 := rfl; omega) (by have g0 := i_rg a1; have g1 : ((-1) : Int32).toInt = (-1) := rfl; have g2 : (0 : Int32).toInt = 0 := rfl; have g3 : BIG = 4294967296 := rfl; omega)
theorem h_X0_payFor_25_26_b19 {s0 : Sg} (n : Nat) : ∀ (v4 : Int32) (v5 : Int32) (v6 : Int32) (s : Sg), JC 64 s0 s → 0 ≤ v6.toInt ∧ v6.toInt ≤ 4 → 4 - v6.toInt < (n : Int) → OQ (f_X0_payFor_25_26_b19 n v4 v5 v6 s) (fun r9 s9 => JC 64 s0 s9 ∧ (0 ≤ r9.toInt ∧ r9.toInt ≤ 1) ∧ (r9 = 0 → True) ∧ (¬ r9 = 0 → True)) := by
  induction n with
  | zero => intro v4 v5 v6 s hJ p_v6 hn; exact False.elim (by have g0 := hn; have g1 := p_v6; have g2 := i_rg v4; have g3 := i_rg v5; have g4 := i_rg v6; omega)
  | succ n ih =>
    intro v4 v5 v6 s hJ p_v6 hn
    unfold f_X0_payFor_25_26_b19
    refine oq_if (fun c1 => ?_) (fun c1 => ?_)
    · refine oq_if (fun c2 => ?_) (fun c2 => ?_)
      · exact ⟨hJ, (by have f0 : (1 : Int32).toInt = 1 := rfl; omega), fun w9 => absurd w9 (by decide), fun _ => trivial⟩
      · exact ⟨hJ, (by have f0 : (0 : Int32).toInt = 0 := rfl; omega), fun _ => trivial, fun w9 => absurd rfl w9⟩
    · refine oq_if (fun c3 => ?_) (fun c3 => ?_)
      · refine oq_if (fun c4 => ?_) (fun c4 => ?_)
        · exact ⟨hJ, (by have f0 : (1 : Int32).toInt = 1 := rfl; omega), fun w9 => absurd w9 (by decide), fun _ => trivial⟩
        · exact ⟨hJ, (by have f0 : (0 : Int32).toInt = 0 := rfl; omega), fun _ => trivial, fun w9 => absurd rfl w9⟩
      · refine oq_b (h_X0_cheapest_25 _ hJ.1) (fun r1 s2 hs2 => ?_)
        have js2 : JC 64 s0 s2 := j_call hJ hs2.1 rfl
        refine oq_if (fun c5 => ?_) (fun c5 => ?_)
        · exact ih _ _ _ _ js2 (by have f0 := i_add (v6) ((1 : Int32)); have f1 := p_v6; have f2 := i_rg v6; have f3 : (1 : Int32).toInt = 1 := rfl; have f4 := i_nle c1; have f5 := j_rd hJ 25 16 0 4 rfl; omega) (by have g0 := i_add (v6) ((1 : Int32)); have g1 := i_rg v4; have g2 := i_rg v5; have g3 := p_v6; have g4 := i_rg v6; have g5 : (1 : Int32).toInt = 1 := rfl; have g6 := i_nle c1; have g7 := i_nle c3; have g8 := j_rd hJ 25 16 0 4 rfl; have g9 : (0 : Int32).toInt = 0 := rfl; have g10 := hn; omega)
        · refine oq_n (fun x3 ex3 => ?_)
          refine oq_c (inr_of (by have f0 := hs2.2.1; have f1 := i_rg r1; have f2 := i_ne c5; have f3 : ((-1) : Int32).toInt = (-1) := rfl; omega)) ?_
          refine oq_n (fun x5 ex5 => ?_)
          refine oq_n (fun s6 es6 => ?_)
          have js6 : JC 64 s0 s6 := by rw [es6]; exact (j_wf js2 rfl 6 rfl rfl)
          refine oq_n (fun s7 es7 => ?_)
          have js7 : JC 64 s0 s7 := by rw [es7]; exact (j_wf js6 rfl 6 rfl rfl)
          exact ih _ _ _ _ js7 (by have f0 := i_add (v6) ((1 : Int32)); have f1 := p_v6; have f2 := i_rg v6; have f3 : (1 : Int32).toInt = 1 := rfl; have f4 := i_nle c1; have f5 := j_rd hJ 25 16 0 4 rfl; omega) (by have g0 := i_sub (v4) (x5); have g1 := i_add (v6) ((1 : Int32)); have g2 := i_rg v4; have g3 := i_eq ex5; have g4 := ite_lt (s2.1 44 r1.toNatClampNeg) (v4) (s2.1 44 r1.toNatClampNeg) (v4); have g5 := i_rg x5; have g6 := i_eq ex3; have g7 := i_and (r1) ((31 : Int32)) (by decide); have g8 := i_sh (r1) (by have f0 := hs2.2.1; have f1 := i_rg r1; have f2 := i_ne c5; have f3 : ((-1) : Int32).toInt = (-1) := rfl; omega); have g9 := i_rg x3; have g10 := p_v6; have g11 := i_rg v6; have g12 : (1 : Int32).toInt = 1 := rfl; have g13 : (s2.1 44 r1.toNatClampNeg).toInt = (s.1 44 r1.toNatClampNeg).toInt := j_fr hs2.1 44 r1.toNatClampNeg 44 rfl rfl; have g14 := i_rg (s2.1 44 r1.toNatClampNeg); have g15 := i_rg v5; have g16 := hs2.2.1; have g17 := i_rg r1; have g18 : (31 : Int32).toInt = 31 := rfl; have g19 := i_rg (s.1 44 r1.toNatClampNeg); have g20 := i_nle c1; have g21 := i_nle c3; have g22 := i_ne c5; have g23 := j_rd hJ 25 16 0 4 rfl; have g24 : (0 : Int32).toInt = 0 := rfl; have g25 : ((-1) : Int32).toInt = (-1) := rfl; have g26 := hn; omega)
theorem h_X0_payFor_25_26 (a3 : Int32) {s : Sg} (hR : Rg rC s) : OQ (f_X0_payFor_25_26 a3 s) (fun r9 s9 => JC 64 s s9 ∧ (0 ≤ r9.toInt ∧ r9.toInt ≤ 1) ∧ (r9 = 0 → True) ∧ (¬ r9 = 0 → True)) := by
  have hJ : JC 64 s s := j_refl hR
  unfold f_X0_payFor_25_26
  exact h_X0_payFor_25_26_b19 BIG _ _ _ _ (j_wf (j_wf hJ rfl 6 rfl rfl) rfl 6 rfl rfl) (by have f0 : (0 : Int32).toInt = 0 := rfl; omega) (by have g0 := i_rg a3; have g1 : (0 : Int32).toInt = 0 := rfl; have g2 : BIG = 4294967296 := rfl; omega)
theorem h_X11_value (a1 : Int32) {s : Sg} (hR : Rg rC s) : OQ (f_X11_value a1 s) (fun r9 s9 => JC 47890485652059026823698344598447161988085597568237632 s s9 ∧ True ∧ (r9 = 0 → 0 ≤ (a1).toInt ∧ (a1).toInt ≤ 7) ∧ (¬ r9 = 0 → True)) := by
  have hJ : JC 47890485652059026823698344598447161988085597568237632 s s := j_refl hR
  unfold f_X11_value
  refine oq_b (h_X11_whyNoStep _ _ hJ.1 (by have f0 : (1 : Int32).toInt = 1 := rfl; omega)) (fun r1 s2 hs2 => ?_)
  have js2 : JC 47890485652059026823698344598447161988085597568237632 s s2 := j_call hJ hs2.1 rfl
  refine oq_if (fun c1 => ?_) (fun c1 => ?_)
  · refine oq_b (h_X2_lying _ js2.1 (by have f0 := i_rg a1; have f1 := (hs2.2.2.1 c1).1; have f2 := (hs2.2.2.1 c1).2.1; have f3 := (hs2.2.2.1 c1).2.2; have f4 : (0 : Int32).toInt = 0 := rfl; have f5 : (7 : Int32).toInt = 7 := rfl; have f6 : (1 : Int32).toInt = 1 := rfl; omega)) (fun r3 s4 hs4 => ?_)
    have js4 : JC 47890485652059026823698344598447161988085597568237632 s s4 := j_call js2 hs4.1 rfl
    refine oq_b (h_X0_payFor_25_26 _ js4.1) (fun r5 s6 hs6 => ?_)
    have js6 : JC 47890485652059026823698344598447161988085597568237632 s s6 := j_call js4 hs6.1 rfl
    refine oq_if (fun c2 => ?_) (fun c2 => ?_)
    · refine oq_b (h_X11_refuse _ js6.1 (by have f0 : (6 : Int32).toInt = 6 := rfl; have f1 := (hs2.2.2.1 c1).2.2; have f2 : (1 : Int32).toInt = 1 := rfl; omega)) (fun r7 s8 hs8 => ?_)
      have js8 : JC 47890485652059026823698344598447161988085597568237632 s s8 := j_call js6 hs8.1 rfl
      exact ⟨js8, trivial, fun w9 => False.elim (by have f0 := hs8.2.1; have f1 := i_rg r7; have f2 := (hs2.2.2.1 c1).2.2; have f3 := i_eq w9; have f4 : (1 : Int32).toInt = 1 := rfl; have f5 : (0 : Int32).toInt = 0 := rfl; omega), fun _ => trivial⟩
    · refine oq_b (h_X11_answer _ js6.1) (fun r9 s10 hs10 => ?_)
      have js10 : JC 47890485652059026823698344598447161988085597568237632 s s10 := j_call js6 hs10.1 rfl
      exact ⟨js10, trivial, fun w9 => ⟨(by have f0 : (0 : Int32).toInt = 0 := rfl; have f1 := i_rg a1; have f2 := (hs2.2.2.1 c1).1; have f3 := (hs2.2.2.1 c1).2.1; have f4 := (hs2.2.2.1 c1).2.2; have f5 : (7 : Int32).toInt = 7 := rfl; have f6 : (1 : Int32).toInt = 1 := rfl; omega), (by have f0 := i_rg a1; have f1 : (7 : Int32).toInt = 7 := rfl; have f2 := (hs2.2.2.1 c1).1; have f3 := (hs2.2.2.1 c1).2.1; have f4 := (hs2.2.2.1 c1).2.2; have f5 : (0 : Int32).toInt = 0 := rfl; have f6 : (1 : Int32).toInt = 1 := rfl; omega)⟩, fun _ => trivial⟩
  · refine oq_b (h_X11_refuse _ js2.1 (by have f0 := hs2.2.1; have f1 := i_rg r1; have f2 := i_ne c1; have f3 : (0 : Int32).toInt = 0 := rfl; omega)) (fun r11 s12 hs12 => ?_)
    have js12 : JC 47890485652059026823698344598447161988085597568237632 s s12 := j_call js2 hs12.1 rfl
    exact ⟨js12, trivial, fun w9 => False.elim (by have f0 := hs12.2.1; have f1 := i_rg r11; have f2 := i_eq w9; have f3 : (0 : Int32).toInt = 0 := rfl; omega), fun _ => trivial⟩
theorem h_X11_beside_b32 {s0 : Sg} (v1 : Int32) (t0 : Int32) (s : Sg) (hJ : JC 47890485652059026823698344598447161988085597568237568 s0 s) (p_v1 : 0 ≤ v1.toInt ∧ v1.toInt ≤ 7) : OQ (f_X11_beside_b32 v1 t0 s) (fun r9 s9 => JC 47890485652059026823698344598447161988085597568237568 s0 s9 ∧ True ∧ (r9 = 0 → True) ∧ (¬ r9 = 0 → True)) := by
  unfold f_X11_beside_b32
  refine oq_if (fun c1 => ?_) (fun c1 => ?_)
  · refine oq_b (h_X11_answer _ hJ.1) (fun r5 s6 hs6 => ?_)
    have js6 : JC 47890485652059026823698344598447161988085597568237568 s0 s6 := j_call hJ hs6.1 rfl
    exact ⟨js6, trivial, fun _ => trivial, fun _ => trivial⟩
  · refine oq_b (h_X2_lying _ hJ.1 (by have f0 := i_add (v1) ((1 : Int32)); have f1 := p_v1; have f2 := i_rg v1; have f3 : (1 : Int32).toInt = 1 := rfl; have f4 := i_nle c1; have f5 := j_rd hJ 25 13 0 8 rfl; omega)) (fun r7 s8 hs8 => ?_)
    have js8 : JC 47890485652059026823698344598447161988085597568237568 s0 s8 := j_call hJ hs8.1 rfl
    refine oq_b (h_X11_answer _ js8.1) (fun r9 s10 hs10 => ?_)
    have js10 : JC 47890485652059026823698344598447161988085597568237568 s0 s10 := j_call js8 hs10.1 rfl
    exact ⟨js10, trivial, fun _ => trivial, fun _ => trivial⟩
theorem h_X11_beside (a1 : Int32) {s : Sg} (hR : Rg rC s) : OQ (f_X11_beside a1 s) (fun r9 s9 => JC 47890485652059026823698344598447161988085597568237568 s s9 ∧ True ∧ (r9 = 0 → True) ∧ (¬ r9 = 0 → True)) := by
  have hJ : JC 47890485652059026823698344598447161988085597568237568 s s := j_refl hR
  unfold f_X11_beside
  refine oq_b (h_X11_isHouse _ hJ.1) (fun r1 s2 hs2 => ?_)
  have js2 : JC 47890485652059026823698344598447161988085597568237568 s s2 := j_call hJ hs2.1 rfl
  refine oq_if (fun c1 => ?_) (fun c1 => ?_)
  · refine oq_b (h_X11_refuse _ js2.1 (by have f0 : (1 : Int32).toInt = 1 := rfl; omega)) (fun r3 s4 hs4 => ?_)
    have js4 : JC 47890485652059026823698344598447161988085597568237568 s s4 := j_call js2 hs4.1 rfl
    exact ⟨js4, trivial, fun w9 => False.elim (by have f0 := hs4.2.1; have f1 := i_rg r3; have f2 := i_eq w9; have f3 : (0 : Int32).toInt = 0 := rfl; omega), fun _ => trivial⟩
  · refine oq_if (fun c2 => ?_) (fun c2 => ?_)
    · exact h_X11_beside_b32 _ _ _ js2 (by have f0 := i_rg a1; have f1 := (hs2.2.2.2 c1).1; have f2 := (hs2.2.2.2 c1).2; have f3 := i_le c2; have f4 : (0 : Int32).toInt = 0 := rfl; have f5 : (7 : Int32).toInt = 7 := rfl; omega)
    · refine oq_b (h_X2_lying _ js2.1 (by have f0 := i_sub (a1) ((1 : Int32)); have f1 := i_rg a1; have f2 : (1 : Int32).toInt = 1 := rfl; have f3 := (hs2.2.2.2 c1).1; have f4 := (hs2.2.2.2 c1).2; have f5 := i_nle c2; have f6 : (0 : Int32).toInt = 0 := rfl; have f7 : (7 : Int32).toInt = 7 := rfl; omega)) (fun r11 s12 hs12 => ?_)
      have js12 : JC 47890485652059026823698344598447161988085597568237568 s s12 := j_call js2 hs12.1 rfl
      exact h_X11_beside_b32 _ _ _ js12 (by have f0 := i_rg a1; have f1 := (hs2.2.2.2 c1).1; have f2 := (hs2.2.2.2 c1).2; have f3 := i_nle c2; have f4 : (0 : Int32).toInt = 0 := rfl; have f5 : (7 : Int32).toInt = 7 := rfl; omega)
theorem h_X11_ghosts_b4 {s0 : Sg} (n : Nat) : ∀ (v1 : Int32) (v2 : Int32) (s : Sg), JC 47890485652059026823698344598447161988085597568237568 s0 s → 0 ≤ v2.toInt ∧ v2.toInt ≤ 8 → 8 - v2.toInt < (n : Int) → OQ (f_X11_ghosts_b4 n v1 v2 s) (fun r9 s9 => JC 47890485652059026823698344598447161988085597568237568 s0 s9 ∧ True ∧ (r9 = 0 → True) ∧ (¬ r9 = 0 → True)) := by
  induction n with
  | zero => intro v1 v2 s hJ p_v2 hn; exact False.elim (by have g0 := hn; have g1 := p_v2; have g2 := i_rg v1; have g3 := i_rg v2; omega)
  | succ n ih =>
    intro v1 v2 s hJ p_v2 hn
    unfold f_X11_ghosts_b4
    refine oq_if (fun c1 => ?_) (fun c1 => ?_)
    · refine oq_b (h_X11_answer _ hJ.1) (fun r1 s2 hs2 => ?_)
      have js2 : JC 47890485652059026823698344598447161988085597568237568 s0 s2 := j_call hJ hs2.1 rfl
      exact ⟨js2, trivial, fun _ => trivial, fun _ => trivial⟩
    · refine oq_c (inr_of (by have f0 := p_v2; have f1 := i_rg v2; have f2 := i_nle c1; have f3 := j_rd hJ 25 14 0 8 rfl; omega)) ?_
      refine oq_b (h_X4_isGone _ hJ.1 (by have f0 := j_rd hJ 31 v2.toNatClampNeg 0 7 rfl; omega)) (fun r4 s5 hs5 => ?_)
      have js5 : JC 47890485652059026823698344598447161988085597568237568 s0 s5 := j_call hJ hs5.1 rfl
      refine oq_if (fun c2 => ?_) (fun c2 => ?_)
      · exact ih _ _ _ js5 (by have f0 := i_add (v2) ((1 : Int32)); have f1 := p_v2; have f2 := i_rg v2; have f3 : (1 : Int32).toInt = 1 := rfl; have f4 := i_nle c1; have f5 := j_rd hJ 25 14 0 8 rfl; omega) (by have g0 := i_add (v2) ((1 : Int32)); have g1 := i_rg v1; have g2 := p_v2; have g3 := i_rg v2; have g4 : (1 : Int32).toInt = 1 := rfl; have g5 := i_nle c1; have g6 := j_rd hJ 25 14 0 8 rfl; have g7 := hn; omega)
      · refine oq_b (h_X4_isGone _ js5.1 (by have f0 := j_rd js5 32 v2.toNatClampNeg 0 7 rfl; omega)) (fun r6 s7 hs7 => ?_)
        have js7 : JC 47890485652059026823698344598447161988085597568237568 s0 s7 := j_call js5 hs7.1 rfl
        refine oq_if (fun c3 => ?_) (fun c3 => ?_)
        · exact ih _ _ _ js7 (by have f0 := i_add (v2) ((1 : Int32)); have f1 := p_v2; have f2 := i_rg v2; have f3 : (1 : Int32).toInt = 1 := rfl; have f4 := i_nle c1; have f5 := j_rd hJ 25 14 0 8 rfl; omega) (by have g0 := i_add (v2) ((1 : Int32)); have g1 := i_rg v1; have g2 := p_v2; have g3 := i_rg v2; have g4 : (1 : Int32).toInt = 1 := rfl; have g5 := i_nle c1; have g6 := j_rd hJ 25 14 0 8 rfl; have g7 := hn; omega)
        · refine oq_n (fun x8 ex8 => ?_)
          exact ih _ _ _ js7 (by have f0 := i_add (v2) ((1 : Int32)); have f1 := p_v2; have f2 := i_rg v2; have f3 : (1 : Int32).toInt = 1 := rfl; have f4 := i_nle c1; have f5 := j_rd hJ 25 14 0 8 rfl; omega) (by have g0 := i_add (v2) ((1 : Int32)); have g1 := i_eq ex8; have g2 := i_and (v2) ((31 : Int32)) (by decide); have g3 := i_sh (v2) (by have f0 := p_v2; have f1 := i_rg v2; have f2 := i_nle c1; have f3 := j_rd hJ 25 14 0 8 rfl; omega); have g4 := i_rg x8; have g5 := p_v2; have g6 := i_rg v2; have g7 : (1 : Int32).toInt = 1 := rfl; have g8 := i_rg v1; have g9 : (31 : Int32).toInt = 31 := rfl; have g10 := i_nle c1; have g11 := j_rd hJ 25 14 0 8 rfl; have g12 := hn; omega)
theorem h_X11_ghosts  {s : Sg} (hR : Rg rC s) : OQ (f_X11_ghosts  s) (fun r9 s9 => JC 47890485652059026823698344598447161988085597568237568 s s9 ∧ True ∧ (r9 = 0 → True) ∧ (¬ r9 = 0 → True)) := by
  have hJ : JC 47890485652059026823698344598447161988085597568237568 s s := j_refl hR
  unfold f_X11_ghosts
  exact h_X11_ghosts_b4 BIG _ _ _ hJ (by have f0 : (0 : Int32).toInt = 0 := rfl; omega) (by have g0 : (0 : Int32).toInt = 0 := rfl; have g1 : BIG = 4294967296 := rfl; omega)
theorem h_X0_isEnough_25_26_b9 {s0 : Sg} (n : Nat) : ∀ (v4 : Int32) (s : Sg), JC 1048576 s0 s → 0 ≤ v4.toInt ∧ v4.toInt ≤ 8 → 8 - v4.toInt < (n : Int) → OQ (f_X0_isEnough_25_26_b9 n v4 s) (fun r9 s9 => JC 1048576 s0 s9 ∧ (0 ≤ r9.toInt ∧ r9.toInt ≤ 1) ∧ (r9 = 0 → True) ∧ (¬ r9 = 0 → True)) := by
  induction n with
  | zero => intro v4 s hJ p_v4 hn; exact False.elim (by have g0 := hn; have g1 := p_v4; have g2 := i_rg v4; omega)
  | succ n ih =>
    intro v4 s hJ p_v4 hn
    unfold f_X0_isEnough_25_26_b9
    refine oq_if (fun c1 => ?_) (fun c1 => ?_)
    · exact ⟨hJ, (by have f0 : (1 : Int32).toInt = 1 := rfl; omega), fun w9 => absurd w9 (by decide), fun _ => trivial⟩
    · refine oq_b (h_X4_isGone _ hJ.1 (by have f0 := p_v4; have f1 := i_rg v4; have f2 := i_nle c1; have f3 := j_rd hJ 25 13 0 8 rfl; omega)) (fun r3 s4 hs4 => ?_)
      have js4 : JC 1048576 s0 s4 := j_call hJ hs4.1 rfl
      refine oq_if (fun c2 => ?_) (fun c2 => ?_)
      · refine oq_c (inr_of (by have f0 := p_v4; have f1 := i_rg v4; have f2 := i_nle c1; have f3 := j_rd hJ 25 13 0 8 rfl; omega)) ?_
        refine oq_b (h_X2_inSight _ js4.1 (by have f0 := p_v4; have f1 := i_rg v4; have f2 := i_nle c1; have f3 := j_rd hJ 25 13 0 8 rfl; omega)) (fun r6 s7 hs7 => ?_)
        have js7 : JC 1048576 s0 s7 := j_call js4 hs7.1 rfl
        refine oq_if (fun c3 => ?_) (fun c3 => ?_)
        · exact ih _ _ js7 (by have f0 := i_add (v4) ((1 : Int32)); have f1 := p_v4; have f2 := i_rg v4; have f3 : (1 : Int32).toInt = 1 := rfl; have f4 := i_nle c1; have f5 := j_rd hJ 25 13 0 8 rfl; omega) (by have g0 := i_add (v4) ((1 : Int32)); have g1 := p_v4; have g2 := i_rg v4; have g3 : (1 : Int32).toInt = 1 := rfl; have g4 := i_nle c1; have g5 := j_rd hJ 25 13 0 8 rfl; have g6 := hn; omega)
        · exact ⟨js7, (by have f0 : (0 : Int32).toInt = 0 := rfl; omega), fun _ => trivial, fun w9 => absurd rfl w9⟩
      · exact ih _ _ js4 (by have f0 := i_add (v4) ((1 : Int32)); have f1 := p_v4; have f2 := i_rg v4; have f3 : (1 : Int32).toInt = 1 := rfl; have f4 := i_nle c1; have f5 := j_rd hJ 25 13 0 8 rfl; omega) (by have g0 := i_add (v4) ((1 : Int32)); have g1 := p_v4; have g2 := i_rg v4; have g3 : (1 : Int32).toInt = 1 := rfl; have g4 := i_nle c1; have g5 := j_rd hJ 25 13 0 8 rfl; have g6 := hn; omega)
theorem h_X0_isEnough_25_26 (a3 : Int32) {s : Sg} (hR : Rg rC s) (p_a3 : 1 ≤ a3.toInt ∧ a3.toInt ≤ 255) : OQ (f_X0_isEnough_25_26 a3 s) (fun r9 s9 => JC 1048576 s s9 ∧ (0 ≤ r9.toInt ∧ r9.toInt ≤ 1) ∧ (r9 = 0 → True) ∧ (¬ r9 = 0 → True)) := by
  have hJ : JC 1048576 s s := j_refl hR
  unfold f_X0_isEnough_25_26
  refine oq_b (h_X0_askFor_25 _ hJ.1) (fun u1 s2 hs2 => ?_)
  have js2 : JC 1048576 s s2 := j_call hJ hs2.1 rfl
  exact h_X0_isEnough_25_26_b9 BIG _ _ js2 (by have f0 : (0 : Int32).toInt = 0 := rfl; omega) (by have g0 : (0 : Int32).toInt = 0 := rfl; have g1 : BIG = 4294967296 := rfl; omega)
theorem h_X0_greatest_25_26_b14 {s0 : Sg} (n : Nat) : ∀ (v3 : Int32) (v4 : Int32) (v5 : Int32) (v6 : Int32) (s : Sg), JC 1048576 s0 s → 0 ≤ v4.toInt ∧ v4.toInt ≤ 255 → 0 ≤ v5.toInt ∧ v5.toInt ≤ 79 → 1 ≤ v6.toInt ∧ v6.toInt ≤ 300 → 300 - v6.toInt < (n : Int) → OQ (f_X0_greatest_25_26_b14 n v3 v4 v5 v6 s) (fun r9 s9 => JC 1048576 s0 s9 ∧ (0 ≤ r9.toInt ∧ r9.toInt ≤ 255) ∧ (r9 = 0 → True) ∧ (¬ r9 = 0 → True)) := by
  induction n with
  | zero => intro v3 v4 v5 v6 s hJ p_v4 p_v5 p_v6 hn; exact False.elim (by have g0 := hn; have g1 := p_v4; have g2 := p_v5; have g3 := p_v6; have g4 := i_rg v3; have g5 := i_rg v4; have g6 := i_rg v5; have g7 := i_rg v6; omega)
  | succ n ih =>
    intro v3 v4 v5 v6 s hJ p_v4 p_v5 p_v6 hn
    unfold f_X0_greatest_25_26_b14
    refine oq_b (h_X4_allQuarrels  hJ.1) (fun r3 s4 hs4 => ?_)
    have js4 : JC 1048576 s0 s4 := j_call hJ hs4.1 rfl
    refine oq_if (fun c1 => ?_) (fun c1 => ?_)
    · exact ⟨js4, (by have f0 := p_v4; have f1 := i_rg v4; omega), fun _ => trivial, fun _ => trivial⟩
    · refine oq_b (h_bitCount _ js4.1) (fun r5 s6 hs6 => ?_)
      have js6 : JC 1048576 s0 s6 := j_call js4 hs6.1 rfl
      refine oq_if (fun c2 => ?_) (fun c2 => ?_)
      · exact ih _ _ _ _ _ js6 (by have f0 := p_v4; have f1 := i_rg v4; omega) (by have f0 := p_v5; have f1 := i_rg v5; have f2 := i_le c2; have f3 := hs6.2.1; have f4 := i_rg r5; omega) (by have f0 := i_add (v6) ((1 : Int32)); have f1 := p_v6; have f2 := i_rg v6; have f3 : (1 : Int32).toInt = 1 := rfl; have f4 := i_nlt c1; have f5 := hs4.2.1; have f6 := i_rg r3; omega) (by have g0 := i_add (v6) ((1 : Int32)); have g1 := i_rg v3; have g2 := p_v4; have g3 := i_rg v4; have g4 := p_v5; have g5 := i_rg v5; have g6 := p_v6; have g7 := i_rg v6; have g8 : (1 : Int32).toInt = 1 := rfl; have g9 := i_nlt c1; have g10 := i_le c2; have g11 := hs4.2.1; have g12 := i_rg r3; have g13 := hs6.2.1; have g14 := i_rg r5; have g15 := hn; omega)
      · refine oq_if (fun c3 => ?_) (fun c3 => ?_)
        · refine oq_b (h_X0_isEnough_25_26 _ js6.1 (by have f0 := p_v6; have f1 := i_rg v6; have f2 := i_nlt c1; have f3 := i_eq c3; have f4 := hs4.2.1; have f5 := i_rg r3; have f6 := i_rg v3; have f7 : (0 : Int32).toInt = 0 := rfl; omega)) (fun r7 s8 hs8 => ?_)
          have js8 : JC 1048576 s0 s8 := j_call js6 hs8.1 rfl
          refine oq_if (fun c4 => ?_) (fun c4 => ?_)
          · exact ih _ _ _ _ _ js8 (by have f0 := p_v4; have f1 := i_rg v4; omega) (by have f0 := p_v5; have f1 := i_rg v5; have f2 := i_nle c2; have f3 := hs6.2.1; have f4 := i_rg r5; omega) (by have f0 := i_add (v6) ((1 : Int32)); have f1 := p_v6; have f2 := i_rg v6; have f3 : (1 : Int32).toInt = 1 := rfl; have f4 := i_nlt c1; have f5 := i_eq c3; have f6 := hs4.2.1; have f7 := i_rg r3; have f8 := i_rg v3; have f9 : (0 : Int32).toInt = 0 := rfl; omega) (by have g0 := i_add (v6) ((1 : Int32)); have g1 := i_rg v3; have g2 := p_v4; have g3 := i_rg v4; have g4 := p_v5; have g5 := i_rg v5; have g6 := p_v6; have g7 := i_rg v6; have g8 : (1 : Int32).toInt = 1 := rfl; have g9 := i_nlt c1; have g10 := i_nle c2; have g11 := i_eq c3; have g12 := hs4.2.1; have g13 := i_rg r3; have g14 := hs6.2.1; have g15 := i_rg r5; have g16 : (0 : Int32).toInt = 0 := rfl; have g17 := hn; omega)
          · exact ih _ _ _ _ _ js8 (by have f0 := p_v6; have f1 := i_rg v6; have f2 := i_nlt c1; have f3 := i_eq c3; have f4 := hs4.2.1; have f5 := i_rg r3; have f6 := i_rg v3; have f7 : (0 : Int32).toInt = 0 := rfl; omega) (by have f0 := hs6.2.1; have f1 := i_rg r5; have f2 := i_nle c2; have f3 := p_v5; have f4 := i_rg v5; omega) (by have f0 := i_add (v6) ((1 : Int32)); have f1 := p_v6; have f2 := i_rg v6; have f3 : (1 : Int32).toInt = 1 := rfl; have f4 := i_nlt c1; have f5 := i_eq c3; have f6 := hs4.2.1; have f7 := i_rg r3; have f8 := i_rg v3; have f9 : (0 : Int32).toInt = 0 := rfl; omega) (by have g0 := i_add (v6) ((1 : Int32)); have g1 := i_rg v3; have g2 := p_v6; have g3 := i_rg v6; have g4 := hs6.2.1; have g5 := i_rg r5; have g6 : (1 : Int32).toInt = 1 := rfl; have g7 := i_nlt c1; have g8 := i_nle c2; have g9 := i_eq c3; have g10 := hs4.2.1; have g11 := i_rg r3; have g12 := p_v5; have g13 := i_rg v5; have g14 : (0 : Int32).toInt = 0 := rfl; have g15 := hn; omega)
        · exact ih _ _ _ _ _ js6 (by have f0 := p_v4; have f1 := i_rg v4; omega) (by have f0 := p_v5; have f1 := i_rg v5; have f2 := i_nle c2; have f3 := hs6.2.1; have f4 := i_rg r5; omega) (by have f0 := i_add (v6) ((1 : Int32)); have f1 := p_v6; have f2 := i_rg v6; have f3 : (1 : Int32).toInt = 1 := rfl; have f4 := i_nlt c1; have f5 := i_ne c3; have f6 := hs4.2.1; have f7 := i_rg r3; have f8 := i_rg v3; have f9 : (0 : Int32).toInt = 0 := rfl; omega) (by have g0 := i_add (v6) ((1 : Int32)); have g1 := i_rg v3; have g2 := p_v4; have g3 := i_rg v4; have g4 := p_v5; have g5 := i_rg v5; have g6 := p_v6; have g7 := i_rg v6; have g8 : (1 : Int32).toInt = 1 := rfl; have g9 := i_nlt c1; have g10 := i_nle c2; have g11 := i_ne c3; have g12 := hs4.2.1; have g13 := i_rg r3; have g14 := hs6.2.1; have g15 := i_rg r5; have g16 : (0 : Int32).toInt = 0 := rfl; have g17 := hn; omega)
theorem h_X0_greatest_25_26  {s : Sg} (hR : Rg rC s) : OQ (f_X0_greatest_25_26  s) (fun r9 s9 => JC 1048576 s s9 ∧ (0 ≤ r9.toInt ∧ r9.toInt ≤ 255) ∧ (r9 = 0 → True) ∧ (¬ r9 = 0 → True)) := by
  have hJ : JC 1048576 s s := j_refl hR
  unfold f_X0_greatest_25_26
  refine oq_b (h_X4_withoutHope  hJ.1) (fun r1 s2 hs2 => ?_)
  have js2 : JC 1048576 s s2 := j_call hJ hs2.1 rfl
  exact h_X0_greatest_25_26_b14 BIG _ _ _ _ _ js2 (by have f0 : (0 : Int32).toInt = 0 := rfl; omega) (by have f0 : (0 : Int32).toInt = 0 := rfl; omega) (by have f0 : (1 : Int32).toInt = 1 := rfl; omega) (by have g0 := i_rg r1; have g1 : (0 : Int32).toInt = 0 := rfl; have g2 : (1 : Int32).toInt = 1 := rfl; have g3 : BIG = 4294967296 := rfl; omega)
theorem h_X11_most  {s : Sg} (hR : Rg rC s) : OQ (f_X11_most  s) (fun r9 s9 => JC 47890485652059026823698344598447161988085597569286144 s s9 ∧ True ∧ (r9 = 0 → True) ∧ (¬ r9 = 0 → True)) := by
  have hJ : JC 47890485652059026823698344598447161988085597569286144 s s := j_refl hR
  unfold f_X11_most
  refine oq_b (h_X0_greatest_25_26  hJ.1) (fun r1 s2 hs2 => ?_)
  have js2 : JC 47890485652059026823698344598447161988085597569286144 s s2 := j_call hJ hs2.1 rfl
  refine oq_b (h_X11_answer _ js2.1) (fun r3 s4 hs4 => ?_)
  have js4 : JC 47890485652059026823698344598447161988085597569286144 s s4 := j_call js2 hs4.1 rfl
  exact ⟨js4, trivial, fun _ => trivial, fun _ => trivial⟩
theorem h_X11_isSet (a1 : Int32) {s : Sg} (hR : Rg rC s) : OQ (f_X11_isSet a1 s) (fun r9 s9 => JC 0 s s9 ∧ (0 ≤ r9.toInt ∧ r9.toInt ≤ 1) ∧ (r9 = 0 → True) ∧ (¬ r9 = 0 → 0 ≤ (a1).toInt ∧ (a1).toInt ≤ 255)) := by
  have hJ : JC 0 s s := j_refl hR
  unfold f_X11_isSet
  refine oq_b (h_X4_allQuarrels  hJ.1) (fun r1 s2 hs2 => ?_)
  have js2 : JC 0 s s2 := j_call hJ hs2.1 rfl
  refine oq_b (h_X11_within _ _ _ js2.1 (by have f0 : (0 : Int32).toInt = 0 := rfl; omega) (by have f0 := hs2.2.1; have f1 := i_rg r1; omega)) (fun r3 s4 hs4 => ?_)
  have js4 : JC 0 s s4 := j_call js2 hs4.1 rfl
  refine oq_c (b01_of (by have f0 := hs4.2.1; have f1 := i_rg r3; omega)) ?_
  exact ⟨js4, (by have f0 := hs4.2.1; have f1 := i_rg r3; omega), fun _ => trivial, fun w9 => ⟨(by have f0 : (0 : Int32).toInt = 0 := rfl; have f1 := i_rg a1; have f2 := (hs4.2.2.2 w9).1; have f3 := (hs4.2.2.2 w9).2.1; have f4 := (hs4.2.2.2 w9).2.2.1; have f5 := (hs4.2.2.2 w9).2.2.2; have f6 := hs2.2.1; have f7 := i_rg r1; omega), (by have f0 := i_rg a1; have f1 : (255 : Int32).toInt = 255 := rfl; have f2 := (hs4.2.2.2 w9).1; have f3 := (hs4.2.2.2 w9).2.1; have f4 := (hs4.2.2.2 w9).2.2.1; have f5 := (hs4.2.2.2 w9).2.2.2; have f6 : (0 : Int32).toInt = 0 := rfl; have f7 := hs2.2.1; have f8 := i_rg r1; omega)⟩⟩
theorem h_X11_lack (a1 : Int32) {s : Sg} (hR : Rg rC s) : OQ (f_X11_lack a1 s) (fun r9 s9 => JC 47890485652059026823698344598447161988085597569286144 s s9 ∧ True ∧ (r9 = 0 → 0 ≤ (a1).toInt ∧ (a1).toInt ≤ 255) ∧ (¬ r9 = 0 → True)) := by
  have hJ : JC 47890485652059026823698344598447161988085597569286144 s s := j_refl hR
  unfold f_X11_lack
  refine oq_b (h_X11_isSet _ hJ.1) (fun r1 s2 hs2 => ?_)
  have js2 : JC 47890485652059026823698344598447161988085597569286144 s s2 := j_call hJ hs2.1 rfl
  refine oq_if (fun c1 => ?_) (fun c1 => ?_)
  · refine oq_b (h_X11_refuse _ js2.1 (by have f0 : (1 : Int32).toInt = 1 := rfl; omega)) (fun r3 s4 hs4 => ?_)
    have js4 : JC 47890485652059026823698344598447161988085597569286144 s s4 := j_call js2 hs4.1 rfl
    exact ⟨js4, trivial, fun w9 => False.elim (by have f0 := hs4.2.1; have f1 := i_rg r3; have f2 := i_eq w9; have f3 : (0 : Int32).toInt = 0 := rfl; omega), fun _ => trivial⟩
  · refine oq_b (h_X0_lackOf_25_26 _ js2.1 (by have f0 := i_rg a1; have f1 := (hs2.2.2.2 c1).1; have f2 := (hs2.2.2.2 c1).2; have f3 : (0 : Int32).toInt = 0 := rfl; have f4 : (255 : Int32).toInt = 255 := rfl; omega)) (fun r5 s6 hs6 => ?_)
    have js6 : JC 47890485652059026823698344598447161988085597569286144 s s6 := j_call js2 hs6.1 rfl
    refine oq_b (h_X11_answer _ js6.1) (fun r7 s8 hs8 => ?_)
    have js8 : JC 47890485652059026823698344598447161988085597569286144 s s8 := j_call js6 hs8.1 rfl
    exact ⟨js8, trivial, fun w9 => ⟨(by have f0 : (0 : Int32).toInt = 0 := rfl; have f1 := i_rg a1; have f2 := (hs2.2.2.2 c1).1; have f3 := (hs2.2.2.2 c1).2; have f4 : (255 : Int32).toInt = 255 := rfl; omega), (by have f0 := i_rg a1; have f1 : (255 : Int32).toInt = 255 := rfl; have f2 := (hs2.2.2.2 c1).1; have f3 := (hs2.2.2.2 c1).2; have f4 : (0 : Int32).toInt = 0 := rfl; omega)⟩, fun _ => trivial⟩
theorem h_X11_lackAt (a1 : Int32) (a2 : Int32) {s : Sg} (hR : Rg rC s) : OQ (f_X11_lackAt a1 a2 s) (fun r9 s9 => JC 47890485652059026823698344598447161988085597569286144 s s9 ∧ True ∧ (r9 = 0 → 0 ≤ (a2).toInt ∧ (a2).toInt ≤ 7) ∧ (¬ r9 = 0 → True)) := by
  have hJ : JC 47890485652059026823698344598447161988085597569286144 s s := j_refl hR
  unfold f_X11_lackAt
  refine oq_b (h_X11_isSet _ hJ.1) (fun r1 s2 hs2 => ?_)
  have js2 : JC 47890485652059026823698344598447161988085597569286144 s s2 := j_call hJ hs2.1 rfl
  refine oq_b (h_X11_whyNoStep _ _ js2.1 (by have f0 := hs2.2.1; have f1 := i_rg r1; omega)) (fun r3 s4 hs4 => ?_)
  have js4 : JC 47890485652059026823698344598447161988085597569286144 s s4 := j_call js2 hs4.1 rfl
  refine oq_if (fun c1 => ?_) (fun c1 => ?_)
  · refine oq_b (h_X4_withoutHope  js4.1) (fun r5 s6 hs6 => ?_)
    have js6 : JC 47890485652059026823698344598447161988085597569286144 s s6 := j_call js4 hs6.1 rfl
    refine oq_if (fun c2 => ?_) (fun c2 => ?_)
    · refine oq_b (h_X0_lackOnStep_25_26 _ _ js6.1 (by have f0 := i_rg a2; have f1 := (hs4.2.2.1 c1).1; have f2 := (hs4.2.2.1 c1).2.1; have f3 : (0 : Int32).toInt = 0 := rfl; have f4 : (7 : Int32).toInt = 7 := rfl; omega)) (fun r7 s8 hs8 => ?_)
      have js8 : JC 47890485652059026823698344598447161988085597569286144 s s8 := j_call js6 hs8.1 rfl
      refine oq_b (h_X11_answer _ js8.1) (fun r9 s10 hs10 => ?_)
      have js10 : JC 47890485652059026823698344598447161988085597569286144 s s10 := j_call js8 hs10.1 rfl
      exact ⟨js10, trivial, fun w9 => ⟨(by have f0 : (0 : Int32).toInt = 0 := rfl; have f1 := i_rg a2; have f2 := (hs4.2.2.1 c1).1; have f3 := (hs4.2.2.1 c1).2.1; have f4 : (7 : Int32).toInt = 7 := rfl; omega), (by have f0 := i_rg a2; have f1 : (7 : Int32).toInt = 7 := rfl; have f2 := (hs4.2.2.1 c1).1; have f3 := (hs4.2.2.1 c1).2.1; have f4 : (0 : Int32).toInt = 0 := rfl; omega)⟩, fun _ => trivial⟩
    · refine oq_b (h_X11_answer _ js6.1) (fun r11 s12 hs12 => ?_)
      have js12 : JC 47890485652059026823698344598447161988085597569286144 s s12 := j_call js6 hs12.1 rfl
      exact ⟨js12, trivial, fun w9 => False.elim (by have f0 := i_rg r11; have f1 := i_eq w9; have f2 := (hs12.2.2.1 w9).1; have f3 := (hs12.2.2.1 w9).2; have f4 : (0 : Int32).toInt = 0 := rfl; have f5 : ((-1) : Int32).toInt = (-1) := rfl; omega), fun _ => trivial⟩
  · refine oq_b (h_X11_refuse _ js4.1 (by have f0 := hs4.2.1; have f1 := i_rg r3; have f2 := i_ne c1; have f3 : (0 : Int32).toInt = 0 := rfl; omega)) (fun r13 s14 hs14 => ?_)
    have js14 : JC 47890485652059026823698344598447161988085597569286144 s s14 := j_call js4 hs14.1 rfl
    exact ⟨js14, trivial, fun w9 => False.elim (by have f0 := hs14.2.1; have f1 := i_rg r13; have f2 := i_eq w9; have f3 : (0 : Int32).toInt = 0 := rfl; omega), fun _ => trivial⟩
theorem h_X9_freedBy_26_25 (a2 : Int32) {s : Sg} (hR : Rg rC s) (p_a2 : 0 ≤ a2.toInt ∧ a2.toInt ≤ 7) : OQ (f_X9_freedBy_26_25 a2 s) (fun r9 s9 => JC 0 s s9 ∧ True ∧ (r9 = 0 → True) ∧ (¬ r9 = 0 → True)) := by
  have hJ : JC 0 s s := j_refl hR
  unfold f_X9_freedBy_26_25
  refine oq_b (h_X9_atPeace_26_25 _ hJ.1 (by have f0 := p_a2; have f1 := i_rg a2; omega)) (fun r1 s2 hs2 => ?_)
  have js2 : JC 0 s s2 := j_call hJ hs2.1 rfl
  refine oq_b (h_X9_atPeace_26_25 _ js2.1 (by have f0 : ((-1) : Int32).toInt = (-1) := rfl; omega)) (fun r3 s4 hs4 => ?_)
  have js4 : JC 0 s s4 := j_call js2 hs4.1 rfl
  exact ⟨js4, trivial, fun _ => trivial, fun _ => trivial⟩
theorem h_X11_freed (a1 : Int32) {s : Sg} (hR : Rg rC s) : OQ (f_X11_freed a1 s) (fun r9 s9 => JC 47890485652059026823698344598447161988085597568237568 s s9 ∧ True ∧ (r9 = 0 → 0 ≤ (a1).toInt ∧ (a1).toInt ≤ 7) ∧ (¬ r9 = 0 → True)) := by
  have hJ : JC 47890485652059026823698344598447161988085597568237568 s s := j_refl hR
  unfold f_X11_freed
  refine oq_b (h_X11_isQuarrel _ hJ.1) (fun r1 s2 hs2 => ?_)
  have js2 : JC 47890485652059026823698344598447161988085597568237568 s s2 := j_call hJ hs2.1 rfl
  refine oq_if (fun c1 => ?_) (fun c1 => ?_)
  · refine oq_b (h_X11_refuse _ js2.1 (by have f0 : (1 : Int32).toInt = 1 := rfl; omega)) (fun r3 s4 hs4 => ?_)
    have js4 : JC 47890485652059026823698344598447161988085597568237568 s s4 := j_call js2 hs4.1 rfl
    exact ⟨js4, trivial, fun w9 => False.elim (by have f0 := hs4.2.1; have f1 := i_rg r3; have f2 := i_eq w9; have f3 : (0 : Int32).toInt = 0 := rfl; omega), fun _ => trivial⟩
  · refine oq_b (h_X9_freedBy_26_25 _ js2.1 (by have f0 := i_rg a1; have f1 := (hs2.2.2.2 c1).1; have f2 := (hs2.2.2.2 c1).2; have f3 : (0 : Int32).toInt = 0 := rfl; have f4 : (7 : Int32).toInt = 7 := rfl; omega)) (fun r5 s6 hs6 => ?_)
    have js6 : JC 47890485652059026823698344598447161988085597568237568 s s6 := j_call js2 hs6.1 rfl
    refine oq_b (h_X11_answer _ js6.1) (fun r7 s8 hs8 => ?_)
    have js8 : JC 47890485652059026823698344598447161988085597568237568 s s8 := j_call js6 hs8.1 rfl
    exact ⟨js8, trivial, fun w9 => ⟨(by have f0 : (0 : Int32).toInt = 0 := rfl; have f1 := i_rg a1; have f2 := (hs2.2.2.2 c1).1; have f3 := (hs2.2.2.2 c1).2; have f4 : (7 : Int32).toInt = 7 := rfl; omega), (by have f0 := i_rg a1; have f1 : (7 : Int32).toInt = 7 := rfl; have f2 := (hs2.2.2.2 c1).1; have f3 := (hs2.2.2.2 c1).2; have f4 : (0 : Int32).toInt = 0 := rfl; omega)⟩, fun _ => trivial⟩
theorem h_X11_cost (a1 : Int32) {s : Sg} (hR : Rg rC s) : OQ (f_X11_cost a1 s) (fun r9 s9 => JC 47890485652059026823698344598447161988085597568237632 s s9 ∧ True ∧ (r9 = 0 → 0 ≤ (a1).toInt ∧ (a1).toInt ≤ 9999) ∧ (¬ r9 = 0 → True)) := by
  have hJ : JC 47890485652059026823698344598447161988085597568237632 s s := j_refl hR
  unfold f_X11_cost
  refine oq_b (h_X11_within _ _ _ hJ.1 (by have f0 : (0 : Int32).toInt = 0 := rfl; omega) (by have f0 : (9999 : Int32).toInt = 9999 := rfl; omega)) (fun r1 s2 hs2 => ?_)
  have js2 : JC 47890485652059026823698344598447161988085597568237632 s s2 := j_call hJ hs2.1 rfl
  refine oq_if (fun c1 => ?_) (fun c1 => ?_)
  · refine oq_b (h_X11_refuse _ js2.1 (by have f0 : (1 : Int32).toInt = 1 := rfl; omega)) (fun r3 s4 hs4 => ?_)
    have js4 : JC 47890485652059026823698344598447161988085597568237632 s s4 := j_call js2 hs4.1 rfl
    exact ⟨js4, trivial, fun w9 => False.elim (by have f0 := hs4.2.1; have f1 := i_rg r3; have f2 := i_eq w9; have f3 : (0 : Int32).toInt = 0 := rfl; omega), fun _ => trivial⟩
  · refine oq_b (h_X0_payFor_25_26 _ js2.1) (fun r5 s6 hs6 => ?_)
    have js6 : JC 47890485652059026823698344598447161988085597568237632 s s6 := j_call js2 hs6.1 rfl
    refine oq_if (fun c2 => ?_) (fun c2 => ?_)
    · refine oq_b (h_X11_refuse _ js6.1 (by have f0 : (6 : Int32).toInt = 6 := rfl; have f1 := (hs2.2.2.2 c1).2.2.2; have f2 : (0 : Int32).toInt = 0 := rfl; have f3 : (9999 : Int32).toInt = 9999 := rfl; omega)) (fun r7 s8 hs8 => ?_)
      have js8 : JC 47890485652059026823698344598447161988085597568237632 s s8 := j_call js6 hs8.1 rfl
      exact ⟨js8, trivial, fun w9 => False.elim (by have f0 := hs8.2.1; have f1 := i_rg r7; have f2 := (hs2.2.2.2 c1).2.2.2; have f3 := i_eq w9; have f4 : (0 : Int32).toInt = 0 := rfl; have f5 : (9999 : Int32).toInt = 9999 := rfl; omega), fun _ => trivial⟩
    · refine oq_b (h_X11_answer _ js6.1) (fun r9 s10 hs10 => ?_)
      have js10 : JC 47890485652059026823698344598447161988085597568237632 s s10 := j_call js6 hs10.1 rfl
      exact ⟨js10, trivial, fun w9 => ⟨(by have f0 : (0 : Int32).toInt = 0 := rfl; have f1 := i_rg a1; have f2 := (hs2.2.2.2 c1).1; have f3 := (hs2.2.2.2 c1).2.1; have f4 := (hs2.2.2.2 c1).2.2.1; have f5 := (hs2.2.2.2 c1).2.2.2; have f6 : (9999 : Int32).toInt = 9999 := rfl; omega), (by have f0 := i_rg a1; have f1 : (9999 : Int32).toInt = 9999 := rfl; have f2 := (hs2.2.2.2 c1).1; have f3 := (hs2.2.2.2 c1).2.1; have f4 := (hs2.2.2.2 c1).2.2.1; have f5 := (hs2.2.2.2 c1).2.2.2; have f6 : (0 : Int32).toInt = 0 := rfl; omega)⟩, fun _ => trivial⟩
theorem h_X11_dearest (a1 : Int32) {s : Sg} (hR : Rg rC s) : OQ (f_X11_dearest a1 s) (fun r9 s9 => JC 47890485652059026823698344598447161988085597568237632 s s9 ∧ True ∧ (r9 = 0 → 1 ≤ (a1).toInt ∧ (a1).toInt ≤ 9999) ∧ (¬ r9 = 0 → True)) := by
  have hJ : JC 47890485652059026823698344598447161988085597568237632 s s := j_refl hR
  unfold f_X11_dearest
  refine oq_b (h_X11_within _ _ _ hJ.1 (by have f0 : (1 : Int32).toInt = 1 := rfl; omega) (by have f0 : (9999 : Int32).toInt = 9999 := rfl; omega)) (fun r1 s2 hs2 => ?_)
  have js2 : JC 47890485652059026823698344598447161988085597568237632 s s2 := j_call hJ hs2.1 rfl
  refine oq_if (fun c1 => ?_) (fun c1 => ?_)
  · refine oq_b (h_X11_refuse _ js2.1 (by have f0 : (1 : Int32).toInt = 1 := rfl; omega)) (fun r3 s4 hs4 => ?_)
    have js4 : JC 47890485652059026823698344598447161988085597568237632 s s4 := j_call js2 hs4.1 rfl
    exact ⟨js4, trivial, fun w9 => False.elim (by have f0 := hs4.2.1; have f1 := i_rg r3; have f2 := i_eq w9; have f3 : (0 : Int32).toInt = 0 := rfl; omega), fun _ => trivial⟩
  · refine oq_b (h_X0_payFor_25_26 _ js2.1) (fun r5 s6 hs6 => ?_)
    have js6 : JC 47890485652059026823698344598447161988085597568237632 s s6 := j_call js2 hs6.1 rfl
    refine oq_if (fun c2 => ?_) (fun c2 => ?_)
    · refine oq_b (h_X11_refuse _ js6.1 (by have f0 : (6 : Int32).toInt = 6 := rfl; have f1 := (hs2.2.2.2 c1).2.2.2; have f2 : (0 : Int32).toInt = 0 := rfl; have f3 : (9999 : Int32).toInt = 9999 := rfl; omega)) (fun r7 s8 hs8 => ?_)
      have js8 : JC 47890485652059026823698344598447161988085597568237632 s s8 := j_call js6 hs8.1 rfl
      exact ⟨js8, trivial, fun w9 => False.elim (by have f0 := hs8.2.1; have f1 := i_rg r7; have f2 := (hs2.2.2.2 c1).2.2.2; have f3 := i_eq w9; have f4 : (0 : Int32).toInt = 0 := rfl; have f5 : (9999 : Int32).toInt = 9999 := rfl; omega), fun _ => trivial⟩
    · refine oq_b (h_X11_answer _ js6.1) (fun r9 s10 hs10 => ?_)
      have js10 : JC 47890485652059026823698344598447161988085597568237632 s s10 := j_call js6 hs10.1 rfl
      exact ⟨js10, trivial, fun w9 => ⟨(by have f0 : (1 : Int32).toInt = 1 := rfl; have f1 := i_rg a1; have f2 := (hs2.2.2.2 c1).1; have f3 := (hs2.2.2.2 c1).2.1; have f4 := (hs2.2.2.2 c1).2.2.1; have f5 := (hs2.2.2.2 c1).2.2.2; have f6 : (9999 : Int32).toInt = 9999 := rfl; have f7 : (0 : Int32).toInt = 0 := rfl; omega), (by have f0 := i_rg a1; have f1 : (9999 : Int32).toInt = 9999 := rfl; have f2 := (hs2.2.2.2 c1).1; have f3 := (hs2.2.2.2 c1).2.1; have f4 := (hs2.2.2.2 c1).2.2.1; have f5 := (hs2.2.2.2 c1).2.2.2; have f6 : (1 : Int32).toInt = 1 := rfl; have f7 : (0 : Int32).toInt = 0 := rfl; omega)⟩, fun _ => trivial⟩
theorem h_X11_quiet_b28 {s0 : Sg} (v1 : Int32) (v2 : Int32) (v3 : Int32) (t0 : Int32) (t1 : Int32) (s : Sg) (hJ : JC 47890485652059026823698344598447161988085597568237568 s0 s) (p_t0 : 0 ≤ t0.toInt ∧ t0.toInt ≤ 1) (q_v1_t1 : v1 = t1) : OQ (f_X11_quiet_b28 v1 v2 v3 t0 t1 s) (fun r9 s9 => JC 47890485652059026823698344598447161988085597568237568 s0 s9 ∧ True ∧ (r9 = 0 → True) ∧ (¬ r9 = 0 → True)) := by
  unfold f_X11_quiet_b28
  refine oq_b (h_X11_whyNoStep _ _ hJ.1 (by have f0 := p_t0; have f1 := i_rg t0; omega)) (fun r3 s4 hs4 => ?_)
  have js4 : JC 47890485652059026823698344598447161988085597568237568 s0 s4 := j_call hJ hs4.1 rfl
  refine oq_if (fun c1 => ?_) (fun c1 => ?_)
  · refine oq_c (inr_of (by have f0 := i_rg v1; have f1 := i_eq q_v1_t1; have f2 := (hs4.2.2.1 c1).1; have f3 := (hs4.2.2.1 c1).2.1; have f4 := i_rg t1; have f5 : (0 : Int32).toInt = 0 := rfl; have f6 : (7 : Int32).toInt = 7 := rfl; omega)) ?_
    refine oq_b (h_X11_answer _ js4.1) (fun r6 s7 hs7 => ?_)
    have js7 : JC 47890485652059026823698344598447161988085597568237568 s0 s7 := j_call js4 hs7.1 rfl
    exact ⟨js7, trivial, fun _ => trivial, fun _ => trivial⟩
  · refine oq_b (h_X11_refuse _ js4.1 (by have f0 := hs4.2.1; have f1 := i_rg r3; have f2 := i_ne c1; have f3 : (0 : Int32).toInt = 0 := rfl; omega)) (fun r8 s9 hs9 => ?_)
    have js9 : JC 47890485652059026823698344598447161988085597568237568 s0 s9 := j_call js4 hs9.1 rfl
    exact ⟨js9, trivial, fun w9 => False.elim (by have f0 := hs9.2.1; have f1 := i_rg r8; have f2 := i_eq w9; have f3 : (0 : Int32).toInt = 0 := rfl; omega), fun _ => trivial⟩
theorem h_X11_quiet_b27 {s0 : Sg} (v1 : Int32) (v2 : Int32) (v3 : Int32) (t0 : Int32) (s : Sg) (hJ : JC 47890485652059026823698344598447161988085597568237568 s0 s) (q_v1_t0 : v1 = t0) : OQ (f_X11_quiet_b27 v1 v2 v3 t0 s) (fun r9 s9 => JC 47890485652059026823698344598447161988085597568237568 s0 s9 ∧ True ∧ (r9 = 0 → True) ∧ (¬ r9 = 0 → True)) := by
  unfold f_X11_quiet_b27
  exact h_X11_quiet_b28 _ _ _ _ _ _ hJ (by have f0 : (0 : Int32).toInt = 0 := rfl; omega) q_v1_t0
theorem h_X11_quiet (a1 : Int32) (a2 : Int32) (a3 : Int32) {s : Sg} (hR : Rg rC s) : OQ (f_X11_quiet a1 a2 a3 s) (fun r9 s9 => JC 47890485652059026823698344598447161988085597568237568 s s9 ∧ True ∧ (r9 = 0 → True) ∧ (¬ r9 = 0 → True)) := by
  have hJ : JC 47890485652059026823698344598447161988085597568237568 s s := j_refl hR
  unfold f_X11_quiet
  refine oq_b (h_X11_within _ _ _ hJ.1 (by have f0 : (0 : Int32).toInt = 0 := rfl; omega) (by have f0 : (999 : Int32).toInt = 999 := rfl; omega)) (fun r1 s2 hs2 => ?_)
  have js2 : JC 47890485652059026823698344598447161988085597568237568 s s2 := j_call hJ hs2.1 rfl
  refine oq_if (fun c1 => ?_) (fun c1 => ?_)
  · exact h_X11_quiet_b27 _ _ _ _ _ js2 rfl
  · refine oq_b (h_X11_within _ _ _ js2.1 (by have f0 : (0 : Int32).toInt = 0 := rfl; have f1 := (hs2.2.2.2 c1).2.2.2; have f2 : (999 : Int32).toInt = 999 := rfl; omega) (by have f0 : (9 : Int32).toInt = 9 := rfl; have f1 := (hs2.2.2.2 c1).2.2.2; have f2 : (0 : Int32).toInt = 0 := rfl; have f3 : (999 : Int32).toInt = 999 := rfl; omega)) (fun r10 s11 hs11 => ?_)
    have js11 : JC 47890485652059026823698344598447161988085597568237568 s s11 := j_call js2 hs11.1 rfl
    refine oq_if (fun c2 => ?_) (fun c2 => ?_)
    · exact h_X11_quiet_b27 _ _ _ _ _ js11 rfl
    · exact h_X11_quiet_b28 _ _ _ _ _ _ js11 (by have f0 : (1 : Int32).toInt = 1 := rfl; have f1 := (hs2.2.2.2 c1).2.2.2; have f2 := (hs11.2.2.2 c2).2.2.2; have f3 : (0 : Int32).toInt = 0 := rfl; have f4 : (999 : Int32).toInt = 999 := rfl; have f5 : (9 : Int32).toInt = 9 := rfl; omega) rfl
theorem h_X0_takeMissing_25_14_b25 {s0 : Sg} (k_2 : Int32 → Sg → Option (Int32 × Sg)) (m_2 : Nat) (hk_2 : ∀ (v3 : Int32) (s : Sg), JC 2097152 s0 s → 0 ≤ v3.toInt ∧ v3.toInt ≤ 8 → 8 - v3.toInt < (m_2 : Int) → OQ (k_2 v3 s) (fun r9 s9 => JC 2097152 s0 s9 ∧ (0 ≤ r9.toInt ∧ r9.toInt ≤ 1) ∧ (r9 = 0 → True) ∧ (¬ r9 = 0 → True))) (v3 : Int32) (t0 : Int64) (s : Sg) (hJ : JC 2097152 s0 s) (p_v3 : 0 ≤ v3.toInt ∧ v3.toInt ≤ 7) (hm_2 : 8 - v3.toInt < (m_2 : Int) + 1) : OQ (f_X0_takeMissing_25_14_b25 k_2 v3 t0 s) (fun r9 s9 => JC 2097152 s0 s9 ∧ (0 ≤ r9.toInt ∧ r9.toInt ≤ 1) ∧ (r9 = 0 → True) ∧ (¬ r9 = 0 → True)) := by
  unfold f_X0_takeMissing_25_14_b25
  refine oq_c (inr_of (by have f0 := p_v3; have f1 := i_rg v3; omega)) ?_
  refine oq_if (fun c1 => ?_) (fun c1 => ?_)
  · exact ⟨hJ, (by have f0 : (0 : Int32).toInt = 0 := rfl; omega), fun _ => trivial, fun w9 => absurd rfl w9⟩
  · refine oq_if (fun c2 => ?_) (fun c2 => ?_)
    · refine oq_c (inr_of (by have f0 := p_v3; have f1 := i_rg v3; omega)) ?_
      refine oq_n (fun s5 es5 => ?_)
      have js5 : JC 2097152 s0 s5 := by rw [es5]; exact (j_wf hJ rfl 21 rfl rfl)
      exact hk_2 _ _ js5 (by have f0 := i_add (v3) ((1 : Int32)); have f1 := p_v3; have f2 := i_rg v3; have f3 : (1 : Int32).toInt = 1 := rfl; omega) (by have g0 := i_add (v3) ((1 : Int32)); have g1 := p_v3; have g2 := i_rg v3; have g3 : (1 : Int32).toInt = 1 := rfl; have g4 := hm_2; omega)
    · exact ⟨hJ, (by have f0 : (0 : Int32).toInt = 0 := rfl; omega), fun _ => trivial, fun w9 => absurd rfl w9⟩
theorem h_X0_takeMissing_25_14_b2 {s0 : Sg} (n : Nat) : ∀ (v3 : Int32) (s : Sg), JC 2097152 s0 s → 0 ≤ v3.toInt ∧ v3.toInt ≤ 8 → 8 - v3.toInt < (n : Int) → OQ (f_X0_takeMissing_25_14_b2 n v3 s) (fun r9 s9 => JC 2097152 s0 s9 ∧ (0 ≤ r9.toInt ∧ r9.toInt ≤ 1) ∧ (r9 = 0 → True) ∧ (¬ r9 = 0 → True)) := by
  induction n with
  | zero => intro v3 s hJ p_v3 hn; exact False.elim (by have g0 := hn; have g1 := p_v3; have g2 := i_rg v3; omega)
  | succ n ih =>
    intro v3 s hJ p_v3 hn
    unfold f_X0_takeMissing_25_14_b2
    refine oq_if (fun c1 => ?_) (fun c1 => ?_)
    · exact ⟨hJ, (by have f0 : (1 : Int32).toInt = 1 := rfl; omega), fun w9 => absurd w9 (by decide), fun _ => trivial⟩
    · refine oq_b (h_X4_isGone _ hJ.1 (by have f0 := p_v3; have f1 := i_rg v3; have f2 := i_nle c1; have f3 := j_rd hJ 25 13 0 8 rfl; omega)) (fun r1 s2 hs2 => ?_)
      have js2 : JC 2097152 s0 s2 := j_call hJ hs2.1 rfl
      refine oq_if (fun c2 => ?_) (fun c2 => ?_)
      · exact h_X0_takeMissing_25_14_b25 _ n ih _ _ _ js2 (by have f0 := p_v3; have f1 := i_rg v3; have f2 := i_nle c1; have f3 := j_rd hJ 25 13 0 8 rfl; omega) (by have g0 := p_v3; have g1 := i_rg v3; have g2 : (9999 : Int32).toInt = 9999 := rfl; have g3 := i_nle c1; have g4 := j_rd hJ 25 13 0 8 rfl; have g5 := hn; omega)
      · exact h_X0_takeMissing_25_14_b25 _ n ih _ _ _ js2 (by have f0 := p_v3; have f1 := i_rg v3; have f2 := i_nle c1; have f3 := j_rd hJ 25 13 0 8 rfl; omega) (by have g0 := p_v3; have g1 := i_rg v3; have g2 : (0 : Int32).toInt = 0 := rfl; have g3 := i_nle c1; have g4 := j_rd hJ 25 13 0 8 rfl; have g5 := hn; omega)
theorem h_X0_takeMissing_25_14  {s : Sg} (hR : Rg rC s) : OQ (f_X0_takeMissing_25_14  s) (fun r9 s9 => JC 2097152 s s9 ∧ (0 ≤ r9.toInt ∧ r9.toInt ≤ 1) ∧ (r9 = 0 → True) ∧ (¬ r9 = 0 → True)) := by
  have hJ : JC 2097152 s s := j_refl hR
  unfold f_X0_takeMissing_25_14
  exact h_X0_takeMissing_25_14_b2 BIG _ _ hJ (by have f0 : (0 : Int32).toInt = 0 := rfl; omega) (by have g0 : (0 : Int32).toInt = 0 := rfl; have g1 : BIG = 4294967296 := rfl; omega)
theorem h_X0_isExplained_b64 {s0 : Sg} (k_39 : Int32 → Int32 → Sg → Option (Int32 × Sg)) (m_39 : Nat) (hk_39 : ∀ (v1 : Int32) (v4 : Int32) (s : Sg), JC 4194304 s0 s → 0 ≤ v1.toInt ∧ v1.toInt ≤ 8 → 0 ≤ v4.toInt ∧ v4.toInt ≤ 8 → 8 - v4.toInt < (m_39 : Int) → OQ (k_39 v1 v4 s) (fun r9 s9 => JC 4194304 s0 s9 ∧ (0 ≤ r9.toInt ∧ r9.toInt ≤ 1) ∧ (r9 = 0 → True) ∧ (¬ r9 = 0 → True))) (n : Nat) : ∀ (v1 : Int32) (v4 : Int32) (v5 : Int32) (v6 : Int32) (s : Sg), JC 4194304 s0 s → 1 ≤ v1.toInt ∧ v1.toInt ≤ 8 → 0 ≤ v4.toInt ∧ v4.toInt ≤ 7 → 0 ≤ v6.toInt ∧ v6.toInt ≤ 8 → 8 - v4.toInt < (m_39 : Int) + 1 → 8 - v6.toInt < (n : Int) → OQ (f_X0_isExplained_b64 k_39 n v1 v4 v5 v6 s) (fun r9 s9 => JC 4194304 s0 s9 ∧ (0 ≤ r9.toInt ∧ r9.toInt ≤ 1) ∧ (r9 = 0 → True) ∧ (¬ r9 = 0 → True)) := by
  induction n with
  | zero => intro v1 v4 v5 v6 s hJ p_v1 p_v4 p_v6 hm_39 hn; exact False.elim (by have g0 := hn; have g1 := p_v1; have g2 := p_v4; have g3 := p_v6; have g4 := i_rg v1; have g5 := i_rg v4; have g6 := i_rg v5; have g7 := i_rg v6; omega)
  | succ n ih =>
    intro v1 v4 v5 v6 s hJ p_v1 p_v4 p_v6 hm_39 hn
    unfold f_X0_isExplained_b64
    refine oq_if (fun c1 => ?_) (fun c1 => ?_)
    · refine oq_if (fun c2 => ?_) (fun c2 => ?_)
      · exact hk_39 _ _ _ hJ (by have f0 := p_v1; have f1 := i_rg v1; omega) (by have f0 := i_add (v4) ((1 : Int32)); have f1 := p_v4; have f2 := i_rg v4; have f3 : (1 : Int32).toInt = 1 := rfl; have f4 := i_lt c1; have f5 := p_v6; have f6 := i_rg v6; omega) (by have g0 := i_add (v4) ((1 : Int32)); have g1 := p_v1; have g2 := i_rg v1; have g3 := p_v4; have g4 := i_rg v4; have g5 : (1 : Int32).toInt = 1 := rfl; have g6 := i_lt c1; have g7 := p_v6; have g8 := i_rg v6; have g9 := hm_39; omega)
      · exact ⟨hJ, (by have f0 : (0 : Int32).toInt = 0 := rfl; omega), fun _ => trivial, fun w9 => absurd rfl w9⟩
    · refine oq_if (fun c3 => ?_) (fun c3 => ?_)
      · refine oq_if (fun c4 => ?_) (fun c4 => ?_)
        · exact hk_39 _ _ _ hJ (by have f0 := p_v1; have f1 := i_rg v1; have f2 := i_le c3; have f3 := p_v6; have f4 := i_rg v6; have f5 := i_nlt c1; have f6 := i_add (v4) ((1 : Int32)); have f7 := p_v4; have f8 := i_rg v4; have f9 : (1 : Int32).toInt = 1 := rfl; omega) (by have f0 := i_add (v4) ((1 : Int32)); have f1 := p_v4; have f2 := i_rg v4; have f3 : (1 : Int32).toInt = 1 := rfl; have f4 := i_nlt c1; have f5 := i_le c3; have f6 := p_v6; have f7 := i_rg v6; have f8 := p_v1; have f9 := i_rg v1; omega) (by have g0 := i_add (v4) ((1 : Int32)); have g1 := p_v1; have g2 := i_rg v1; have g3 := p_v4; have g4 := i_rg v4; have g5 : (1 : Int32).toInt = 1 := rfl; have g6 := i_nlt c1; have g7 := i_le c3; have g8 := p_v6; have g9 := i_rg v6; have g10 := hm_39; omega)
        · exact ⟨hJ, (by have f0 : (0 : Int32).toInt = 0 := rfl; omega), fun _ => trivial, fun w9 => absurd rfl w9⟩
      · refine oq_c (inr_of (by have f0 := p_v6; have f1 := i_rg v6; have f2 := i_nlt c1; have f3 := i_add (v4) ((1 : Int32)); have f4 := i_nle c3; have f5 := p_v4; have f6 := i_rg v4; have f7 : (1 : Int32).toInt = 1 := rfl; have f8 := p_v1; have f9 := i_rg v1; omega)) ?_
        refine oq_n (fun x4 ex4 => ?_)
        refine oq_n (fun s5 es5 => ?_)
        have js5 : JC 4194304 s0 s5 := by rw [es5]; exact (j_wf hJ rfl 22 rfl rfl)
        exact ih _ _ _ _ _ js5 (by have f0 := p_v1; have f1 := i_rg v1; have f2 := i_nle c3; have f3 := p_v6; have f4 := i_rg v6; have f5 := i_nlt c1; have f6 := i_add (v4) ((1 : Int32)); have f7 := p_v4; have f8 := i_rg v4; have f9 : (1 : Int32).toInt = 1 := rfl; omega) (by have f0 := p_v4; have f1 := i_rg v4; have f2 := i_nlt c1; have f3 := i_add (v4) ((1 : Int32)); have f4 := i_nle c3; have f5 : (1 : Int32).toInt = 1 := rfl; have f6 := p_v6; have f7 := i_rg v6; have f8 := p_v1; have f9 := i_rg v1; omega) (by have f0 := i_add (v6) ((1 : Int32)); have f1 := p_v6; have f2 := i_rg v6; have f3 : (1 : Int32).toInt = 1 := rfl; have f4 := i_nlt c1; have f5 := i_add (v4) ((1 : Int32)); have f6 := i_nle c3; have f7 := p_v4; have f8 := i_rg v4; have f9 := p_v1; have f10 := i_rg v1; omega) (by have g0 := i_sub (v5) (x4); have g1 := i_add (v6) ((1 : Int32)); have g2 := p_v1; have g3 := i_rg v1; have g4 := p_v4; have g5 := i_rg v4; have g6 := i_rg v5; have g7 := i_eq ex4; have g8 := ite_lt (s.1 22 v6.toNatClampNeg) (v5) (s.1 22 v6.toNatClampNeg) (v5); have g9 := i_rg x4; have g10 := p_v6; have g11 := i_rg v6; have g12 : (1 : Int32).toInt = 1 := rfl; have g13 := i_rg (s.1 22 v6.toNatClampNeg); have g14 := i_nlt c1; have g15 := i_add (v4) ((1 : Int32)); have g16 := i_nle c3; have g17 := hm_39; omega) (by have g0 := i_sub (v5) (x4); have g1 := i_add (v6) ((1 : Int32)); have g2 := p_v1; have g3 := i_rg v1; have g4 := p_v4; have g5 := i_rg v4; have g6 := i_rg v5; have g7 := i_eq ex4; have g8 := ite_lt (s.1 22 v6.toNatClampNeg) (v5) (s.1 22 v6.toNatClampNeg) (v5); have g9 := i_rg x4; have g10 := p_v6; have g11 := i_rg v6; have g12 : (1 : Int32).toInt = 1 := rfl; have g13 := i_rg (s.1 22 v6.toNatClampNeg); have g14 := i_nlt c1; have g15 := i_add (v4) ((1 : Int32)); have g16 := i_nle c3; have g17 := hn; omega)
theorem h_X0_isExplained_b39 {s0 : Sg} (n : Nat) : ∀ (v1 : Int32) (v4 : Int32) (s : Sg), JC 4194304 s0 s → 0 ≤ v1.toInt ∧ v1.toInt ≤ 8 → 0 ≤ v4.toInt ∧ v4.toInt ≤ 8 → 8 - v4.toInt < (n : Int) → OQ (f_X0_isExplained_b39 n v1 v4 s) (fun r9 s9 => JC 4194304 s0 s9 ∧ (0 ≤ r9.toInt ∧ r9.toInt ≤ 1) ∧ (r9 = 0 → True) ∧ (¬ r9 = 0 → True)) := by
  induction n with
  | zero => intro v1 v4 s hJ p_v1 p_v4 hn; exact False.elim (by have g0 := hn; have g1 := p_v1; have g2 := p_v4; have g3 := i_rg v1; have g4 := i_rg v4; omega)
  | succ n ih =>
    intro v1 v4 s hJ p_v1 p_v4 hn
    unfold f_X0_isExplained_b39
    refine oq_if (fun c1 => ?_) (fun c1 => ?_)
    · exact ⟨hJ, (by have f0 : (1 : Int32).toInt = 1 := rfl; omega), fun w9 => absurd w9 (by decide), fun _ => trivial⟩
    · refine oq_c (inr_of (by have f0 := p_v4; have f1 := i_rg v4; have f2 := i_nle c1; have f3 := p_v1; have f4 := i_rg v1; omega)) ?_
      refine oq_n (fun x2 ex2 => ?_)
      exact h_X0_isExplained_b64 _ n ih BIG _ _ _ _ _ hJ (by have f0 := p_v1; have f1 := i_rg v1; have f2 := i_nle c1; have f3 := p_v4; have f4 := i_rg v4; omega) (by have f0 := p_v4; have f1 := i_rg v4; have f2 := i_nle c1; have f3 := p_v1; have f4 := i_rg v1; omega) (by have f0 := i_eq ex2; have f1 := i_sub (v4) ((1 : Int32)); have f2 := ite_lt ((0 : Int32)) (v4 - 1) (v4 - 1) ((0 : Int32)); have f3 := i_rg x2; have f4 : (0 : Int32).toInt = 0 := rfl; have f5 := p_v4; have f6 := i_rg v4; have f7 : (1 : Int32).toInt = 1 := rfl; have f8 := i_nle c1; have f9 := p_v1; have f10 := i_rg v1; omega) (by have g0 := p_v1; have g1 := i_rg v1; have g2 := p_v4; have g3 := i_rg v4; have g4 := i_rg (s.1 21 v4.toNatClampNeg); have g5 := i_eq ex2; have g6 := i_sub (v4) ((1 : Int32)); have g7 := ite_lt ((0 : Int32)) (v4 - 1) (v4 - 1) ((0 : Int32)); have g8 := i_rg x2; have g9 : (0 : Int32).toInt = 0 := rfl; have g10 : (1 : Int32).toInt = 1 := rfl; have g11 := i_nle c1; have g12 := hn; omega) (by have g0 := p_v1; have g1 := i_rg v1; have g2 := p_v4; have g3 := i_rg v4; have g4 := i_rg (s.1 21 v4.toNatClampNeg); have g5 := i_eq ex2; have g6 := i_sub (v4) ((1 : Int32)); have g7 := ite_lt ((0 : Int32)) (v4 - 1) (v4 - 1) ((0 : Int32)); have g8 := i_rg x2; have g9 : (0 : Int32).toInt = 0 := rfl; have g10 : (1 : Int32).toInt = 1 := rfl; have g11 := i_nle c1; have g12 : BIG = 4294967296 := rfl; omega)
theorem h_X0_isExplained_b3 {s0 : Sg} (n : Nat) : ∀ (v1 : Int32) (v2 : Int32) (v3 : Int32) (v4 : Int32) (s : Sg), JC 4194304 s0 s → 0 ≤ v1.toInt ∧ v1.toInt ≤ 8 → 0 ≤ v2.toInt ∧ v2.toInt ≤ 255 → 1 ≤ v3.toInt ∧ v3.toInt ≤ 999 → 0 ≤ v4.toInt ∧ v4.toInt ≤ 8 → 8 - v4.toInt < (n : Int) → OQ (f_X0_isExplained_b3 n v1 v2 v3 v4 s) (fun r9 s9 => JC 4194304 s0 s9 ∧ (0 ≤ r9.toInt ∧ r9.toInt ≤ 1) ∧ (r9 = 0 → True) ∧ (¬ r9 = 0 → True)) := by
  induction n with
  | zero => intro v1 v2 v3 v4 s hJ p_v1 p_v2 p_v3 p_v4 hn; exact False.elim (by have g0 := hn; have g1 := p_v1; have g2 := p_v2; have g3 := p_v3; have g4 := p_v4; have g5 := i_rg v1; have g6 := i_rg v2; have g7 := i_rg v3; have g8 := i_rg v4; omega)
  | succ n ih =>
    intro v1 v2 v3 v4 s hJ p_v1 p_v2 p_v3 p_v4 hn
    unfold f_X0_isExplained_b3
    refine oq_if (fun c1 => ?_) (fun c1 => ?_)
    · exact h_X0_isExplained_b39 BIG _ _ _ hJ (by have f0 := p_v1; have f1 := i_rg v1; have f2 := i_le c1; have f3 := p_v4; have f4 := i_rg v4; omega) (by have f0 : (0 : Int32).toInt = 0 := rfl; omega) (by have g0 := p_v1; have g1 := i_rg v1; have g2 : (0 : Int32).toInt = 0 := rfl; have g3 := i_le c1; have g4 := p_v4; have g5 := i_rg v4; have g6 : BIG = 4294967296 := rfl; omega)
    · refine oq_b (h_X11_has _ _ hJ.1 (by have f0 := p_v4; have f1 := i_rg v4; have f2 := i_nle c1; have f3 := p_v1; have f4 := i_rg v1; omega)) (fun r6 s7 hs7 => ?_)
      have js7 : JC 4194304 s0 s7 := j_call hJ hs7.1 rfl
      refine oq_if (fun c2 => ?_) (fun c2 => ?_)
      · refine oq_c (inr_of (by have f0 := p_v4; have f1 := i_rg v4; have f2 := i_nle c1; have f3 := p_v1; have f4 := i_rg v1; omega)) ?_
        exact ih _ _ _ _ _ (j_wf js7 rfl 22 rfl rfl) (by have f0 := p_v1; have f1 := i_rg v1; have f2 := i_nle c1; have f3 := p_v4; have f4 := i_rg v4; omega) (by have f0 := p_v2; have f1 := i_rg v2; omega) (by have f0 := p_v3; have f1 := i_rg v3; omega) (by have f0 := i_add (v4) ((1 : Int32)); have f1 := p_v4; have f2 := i_rg v4; have f3 : (1 : Int32).toInt = 1 := rfl; have f4 := i_nle c1; have f5 := p_v1; have f6 := i_rg v1; omega) (by have g0 := i_add (v4) ((1 : Int32)); have g1 := p_v1; have g2 := i_rg v1; have g3 := p_v2; have g4 := i_rg v2; have g5 := p_v3; have g6 := i_rg v3; have g7 := p_v4; have g8 := i_rg v4; have g9 : (1 : Int32).toInt = 1 := rfl; have g10 := i_nle c1; have g11 := hn; omega)
      · refine oq_c (inr_of (by have f0 := p_v4; have f1 := i_rg v4; have f2 := i_nle c1; have f3 := p_v1; have f4 := i_rg v1; omega)) ?_
        exact ih _ _ _ _ _ (j_wf js7 rfl 22 rfl rfl) (by have f0 := p_v1; have f1 := i_rg v1; have f2 := i_nle c1; have f3 := p_v4; have f4 := i_rg v4; omega) (by have f0 := p_v2; have f1 := i_rg v2; omega) (by have f0 := p_v3; have f1 := i_rg v3; omega) (by have f0 := i_add (v4) ((1 : Int32)); have f1 := p_v4; have f2 := i_rg v4; have f3 : (1 : Int32).toInt = 1 := rfl; have f4 := i_nle c1; have f5 := p_v1; have f6 := i_rg v1; omega) (by have g0 := i_add (v4) ((1 : Int32)); have g1 := p_v1; have g2 := i_rg v1; have g3 := p_v2; have g4 := i_rg v2; have g5 := p_v3; have g6 := i_rg v3; have g7 := p_v4; have g8 := i_rg v4; have g9 : (1 : Int32).toInt = 1 := rfl; have g10 := i_nle c1; have g11 := hn; omega)
theorem h_X0_isExplained (a1 : Int32) (a2 : Int32) (a3 : Int32) {s : Sg} (hR : Rg rC s) (p_a1 : 0 ≤ a1.toInt ∧ a1.toInt ≤ 8) (p_a2 : 0 ≤ a2.toInt ∧ a2.toInt ≤ 255) (p_a3 : 1 ≤ a3.toInt ∧ a3.toInt ≤ 999) : OQ (f_X0_isExplained a1 a2 a3 s) (fun r9 s9 => JC 4194304 s s9 ∧ (0 ≤ r9.toInt ∧ r9.toInt ≤ 1) ∧ (r9 = 0 → True) ∧ (¬ r9 = 0 → True)) := by
  have hJ : JC 4194304 s s := j_refl hR
  unfold f_X0_isExplained
  exact h_X0_isExplained_b3 BIG _ _ _ _ _ hJ (by have f0 := p_a1; have f1 := i_rg a1; omega) (by have f0 := p_a2; have f1 := i_rg a2; omega) (by have f0 := p_a3; have f1 := i_rg a3; omega) (by have f0 : (0 : Int32).toInt = 0 := rfl; omega) (by have g0 := p_a1; have g1 := i_rg a1; have g2 := p_a2; have g3 := i_rg a2; have g4 := p_a3; have g5 := i_rg a3; have g6 : (0 : Int32).toInt = 0 := rfl; have g7 : BIG = 4294967296 := rfl; omega)
theorem h_X0_fewestSweepers_b10 {s0 : Sg} (n : Nat) : ∀ (v1 : Int32) (v2 : Int32) (v3 : Int32) (v4 : Int32) (v5 : Int32) (s : Sg), JC 4194304 s0 s → 0 ≤ v1.toInt ∧ v1.toInt ≤ 8 → 1 ≤ v2.toInt ∧ v2.toInt ≤ 999 → (-1) ≤ v3.toInt ∧ v3.toInt ≤ 255 → 0 ≤ v4.toInt ∧ v4.toInt ≤ 9 → 0 ≤ v5.toInt ∧ v5.toInt ≤ 300 → 300 - v5.toInt < (n : Int) → OQ (f_X0_fewestSweepers_b10 n v1 v2 v3 v4 v5 s) (fun r9 s9 => JC 4194304 s0 s9 ∧ ((-1) ≤ r9.toInt ∧ r9.toInt ≤ 255) ∧ (r9 = 0 → True) ∧ (¬ r9 = 0 → True)) := by
  induction n with
  | zero => intro v1 v2 v3 v4 v5 s hJ p_v1 p_v2 p_v3 p_v4 p_v5 hn; exact False.elim (by have g0 := hn; have g1 := p_v1; have g2 := p_v2; have g3 := p_v3; have g4 := p_v4; have g5 := p_v5; have g6 := i_rg v1; have g7 := i_rg v2; have g8 := i_rg v3; have g9 := i_rg v4; have g10 := i_rg v5; omega)
  | succ n ih =>
    intro v1 v2 v3 v4 v5 s hJ p_v1 p_v2 p_v3 p_v4 p_v5 hn
    unfold f_X0_fewestSweepers_b10
    refine oq_if (fun c1 => ?_) (fun c1 => ?_)
    · exact ⟨hJ, (by have f0 := p_v3; have f1 := i_rg v3; omega), fun _ => trivial, fun _ => trivial⟩
    · refine oq_b (h_bitCount _ hJ.1) (fun r1 s2 hs2 => ?_)
      have js2 : JC 4194304 s0 s2 := j_call hJ hs2.1 rfl
      refine oq_if (fun c2 => ?_) (fun c2 => ?_)
      · exact ih _ _ _ _ _ _ js2 (by have f0 := p_v1; have f1 := i_rg v1; have f2 := i_nle c1; have f3 := i_and (v1) ((31 : Int32)) (by decide); have f4 := i_sh (v1) (by have f0 := p_v1; have f1 := i_rg v1; omega); have f5 : (1 : Int32).toInt = 1 := rfl; have f6 : (31 : Int32).toInt = 31 := rfl; have f7 := p_v5; have f8 := i_rg v5; omega) (by have f0 := p_v2; have f1 := i_rg v2; omega) (by have f0 := p_v3; have f1 := i_rg v3; omega) (by have f0 := p_v4; have f1 := i_rg v4; have f2 := i_le c2; have f3 := hs2.2.1; have f4 := i_rg r1; omega) (by have f0 := i_add (v5) ((1 : Int32)); have f1 := p_v5; have f2 := i_rg v5; have f3 : (1 : Int32).toInt = 1 := rfl; have f4 := i_nle c1; have f5 := i_and (v1) ((31 : Int32)) (by decide); have f6 := i_sh (v1) (by have f0 := p_v1; have f1 := i_rg v1; omega); have f7 := p_v1; have f8 := i_rg v1; have f9 : (31 : Int32).toInt = 31 := rfl; omega) (by have g0 := i_add (v5) ((1 : Int32)); have g1 := p_v1; have g2 := i_rg v1; have g3 := p_v2; have g4 := i_rg v2; have g5 := p_v3; have g6 := i_rg v3; have g7 := p_v4; have g8 := i_rg v4; have g9 := p_v5; have g10 := i_rg v5; have g11 : (1 : Int32).toInt = 1 := rfl; have g12 := i_nle c1; have g13 := i_and (v1) ((31 : Int32)) (by decide); have g14 := i_sh (v1) (by have f0 := p_v1; have f1 := i_rg v1; omega); have g15 := i_le c2; have g16 : (31 : Int32).toInt = 31 := rfl; have g17 := hs2.2.1; have g18 := i_rg r1; have g19 := hn; omega)
      · refine oq_b (h_X0_isExplained _ _ _ js2.1 (by have f0 := p_v1; have f1 := i_rg v1; have f2 := i_nle c1; have f3 := i_and (v1) ((31 : Int32)) (by decide); have f4 := i_sh (v1) (by have f0 := p_v1; have f1 := i_rg v1; omega); have f5 : (1 : Int32).toInt = 1 := rfl; have f6 : (31 : Int32).toInt = 31 := rfl; have f7 := p_v5; have f8 := i_rg v5; omega) (by have f0 := p_v5; have f1 := i_rg v5; have f2 := i_nle c1; have f3 := i_and (v1) ((31 : Int32)) (by decide); have f4 := i_sh (v1) (by have f0 := p_v1; have f1 := i_rg v1; omega); have f5 : (1 : Int32).toInt = 1 := rfl; have f6 := p_v1; have f7 := i_rg v1; have f8 : (31 : Int32).toInt = 31 := rfl; omega) (by have f0 := p_v2; have f1 := i_rg v2; omega)) (fun r3 s4 hs4 => ?_)
        have js4 : JC 4194304 s0 s4 := j_call js2 hs4.1 rfl
        refine oq_if (fun c3 => ?_) (fun c3 => ?_)
        · exact ih _ _ _ _ _ _ js4 (by have f0 := p_v1; have f1 := i_rg v1; have f2 := i_nle c1; have f3 := i_and (v1) ((31 : Int32)) (by decide); have f4 := i_sh (v1) (by have f0 := p_v1; have f1 := i_rg v1; omega); have f5 : (1 : Int32).toInt = 1 := rfl; have f6 : (31 : Int32).toInt = 31 := rfl; have f7 := p_v5; have f8 := i_rg v5; omega) (by have f0 := p_v2; have f1 := i_rg v2; omega) (by have f0 := p_v3; have f1 := i_rg v3; omega) (by have f0 := p_v4; have f1 := i_rg v4; have f2 := i_nle c2; have f3 := hs2.2.1; have f4 := i_rg r1; omega) (by have f0 := i_add (v5) ((1 : Int32)); have f1 := p_v5; have f2 := i_rg v5; have f3 : (1 : Int32).toInt = 1 := rfl; have f4 := i_nle c1; have f5 := i_and (v1) ((31 : Int32)) (by decide); have f6 := i_sh (v1) (by have f0 := p_v1; have f1 := i_rg v1; omega); have f7 := p_v1; have f8 := i_rg v1; have f9 : (31 : Int32).toInt = 31 := rfl; omega) (by have g0 := i_add (v5) ((1 : Int32)); have g1 := p_v1; have g2 := i_rg v1; have g3 := p_v2; have g4 := i_rg v2; have g5 := p_v3; have g6 := i_rg v3; have g7 := p_v4; have g8 := i_rg v4; have g9 := p_v5; have g10 := i_rg v5; have g11 : (1 : Int32).toInt = 1 := rfl; have g12 := i_nle c1; have g13 := i_and (v1) ((31 : Int32)) (by decide); have g14 := i_sh (v1) (by have f0 := p_v1; have f1 := i_rg v1; omega); have g15 := i_nle c2; have g16 : (31 : Int32).toInt = 31 := rfl; have g17 := hs2.2.1; have g18 := i_rg r1; have g19 := hn; omega)
        · exact ih _ _ _ _ _ _ js4 (by have f0 := p_v1; have f1 := i_rg v1; have f2 := i_nle c1; have f3 := i_and (v1) ((31 : Int32)) (by decide); have f4 := i_sh (v1) (by have f0 := p_v1; have f1 := i_rg v1; omega); have f5 : (1 : Int32).toInt = 1 := rfl; have f6 : (31 : Int32).toInt = 31 := rfl; have f7 := p_v5; have f8 := i_rg v5; omega) (by have f0 := p_v2; have f1 := i_rg v2; omega) (by have f0 := p_v5; have f1 := i_rg v5; have f2 := i_nle c1; have f3 := i_and (v1) ((31 : Int32)) (by decide); have f4 := i_sh (v1) (by have f0 := p_v1; have f1 := i_rg v1; omega); have f5 : (1 : Int32).toInt = 1 := rfl; have f6 := p_v1; have f7 := i_rg v1; have f8 : (31 : Int32).toInt = 31 := rfl; omega) (by have f0 := hs2.2.1; have f1 := i_rg r1; have f2 := i_nle c2; have f3 := p_v4; have f4 := i_rg v4; omega) (by have f0 := i_add (v5) ((1 : Int32)); have f1 := p_v5; have f2 := i_rg v5; have f3 : (1 : Int32).toInt = 1 := rfl; have f4 := i_nle c1; have f5 := i_and (v1) ((31 : Int32)) (by decide); have f6 := i_sh (v1) (by have f0 := p_v1; have f1 := i_rg v1; omega); have f7 := p_v1; have f8 := i_rg v1; have f9 : (31 : Int32).toInt = 31 := rfl; omega) (by have g0 := i_add (v5) ((1 : Int32)); have g1 := p_v1; have g2 := i_rg v1; have g3 := p_v2; have g4 := i_rg v2; have g5 := p_v5; have g6 := i_rg v5; have g7 := hs2.2.1; have g8 := i_rg r1; have g9 : (1 : Int32).toInt = 1 := rfl; have g10 := i_nle c1; have g11 := i_and (v1) ((31 : Int32)) (by decide); have g12 := i_sh (v1) (by have f0 := p_v1; have f1 := i_rg v1; omega); have g13 := i_nle c2; have g14 : (31 : Int32).toInt = 31 := rfl; have g15 := p_v4; have g16 := i_rg v4; have g17 := hn; omega)
theorem h_X0_fewestSweepers (a1 : Int32) (a2 : Int32) {s : Sg} (hR : Rg rC s) (p_a1 : 0 ≤ a1.toInt ∧ a1.toInt ≤ 8) (p_a2 : 1 ≤ a2.toInt ∧ a2.toInt ≤ 999) : OQ (f_X0_fewestSweepers a1 a2 s) (fun r9 s9 => JC 4194304 s s9 ∧ ((-1) ≤ r9.toInt ∧ r9.toInt ≤ 255) ∧ (r9 = 0 → True) ∧ (¬ r9 = 0 → True)) := by
  have hJ : JC 4194304 s s := j_refl hR
  unfold f_X0_fewestSweepers
  exact h_X0_fewestSweepers_b10 BIG _ _ _ _ _ _ hJ (by have f0 := p_a1; have f1 := i_rg a1; omega) (by have f0 := p_a2; have f1 := i_rg a2; omega) (by have f0 : ((-1) : Int32).toInt = (-1) := rfl; omega) (by have f0 := i_add (a1) ((1 : Int32)); have f1 := p_a1; have f2 := i_rg a1; have f3 : (1 : Int32).toInt = 1 := rfl; omega) (by have f0 : (0 : Int32).toInt = 0 := rfl; omega) (by have g0 := i_add (a1) ((1 : Int32)); have g1 := p_a1; have g2 := i_rg a1; have g3 := p_a2; have g4 := i_rg a2; have g5 : ((-1) : Int32).toInt = (-1) := rfl; have g6 : (1 : Int32).toInt = 1 := rfl; have g7 : (0 : Int32).toInt = 0 := rfl; have g8 : BIG = 4294967296 := rfl; omega)
theorem h_X0_takeMissing_25_15_b25 {s0 : Sg} (k_2 : Int32 → Sg → Option (Int32 × Sg)) (m_2 : Nat) (hk_2 : ∀ (v3 : Int32) (s : Sg), JC 2097152 s0 s → 0 ≤ v3.toInt ∧ v3.toInt ≤ 8 → 8 - v3.toInt < (m_2 : Int) → OQ (k_2 v3 s) (fun r9 s9 => JC 2097152 s0 s9 ∧ (0 ≤ r9.toInt ∧ r9.toInt ≤ 1) ∧ (r9 = 0 → True) ∧ (¬ r9 = 0 → True))) (v3 : Int32) (t0 : Int64) (s : Sg) (hJ : JC 2097152 s0 s) (p_v3 : 0 ≤ v3.toInt ∧ v3.toInt ≤ 7) (hm_2 : 8 - v3.toInt < (m_2 : Int) + 1) : OQ (f_X0_takeMissing_25_15_b25 k_2 v3 t0 s) (fun r9 s9 => JC 2097152 s0 s9 ∧ (0 ≤ r9.toInt ∧ r9.toInt ≤ 1) ∧ (r9 = 0 → True) ∧ (¬ r9 = 0 → True)) := by
  unfold f_X0_takeMissing_25_15_b25
  refine oq_c (inr_of (by have f0 := p_v3; have f1 := i_rg v3; omega)) ?_
  refine oq_if (fun c1 => ?_) (fun c1 => ?_)
  · exact ⟨hJ, (by have f0 : (0 : Int32).toInt = 0 := rfl; omega), fun _ => trivial, fun w9 => absurd rfl w9⟩
  · refine oq_if (fun c2 => ?_) (fun c2 => ?_)
    · refine oq_c (inr_of (by have f0 := p_v3; have f1 := i_rg v3; omega)) ?_
      refine oq_n (fun s5 es5 => ?_)
      have js5 : JC 2097152 s0 s5 := by rw [es5]; exact (j_wf hJ rfl 21 rfl rfl)
      exact hk_2 _ _ js5 (by have f0 := i_add (v3) ((1 : Int32)); have f1 := p_v3; have f2 := i_rg v3; have f3 : (1 : Int32).toInt = 1 := rfl; omega) (by have g0 := i_add (v3) ((1 : Int32)); have g1 := p_v3; have g2 := i_rg v3; have g3 : (1 : Int32).toInt = 1 := rfl; have g4 := hm_2; omega)
    · exact ⟨hJ, (by have f0 : (0 : Int32).toInt = 0 := rfl; omega), fun _ => trivial, fun w9 => absurd rfl w9⟩
theorem h_X0_takeMissing_25_15_b2 {s0 : Sg} (n : Nat) : ∀ (v3 : Int32) (s : Sg), JC 2097152 s0 s → 0 ≤ v3.toInt ∧ v3.toInt ≤ 8 → 8 - v3.toInt < (n : Int) → OQ (f_X0_takeMissing_25_15_b2 n v3 s) (fun r9 s9 => JC 2097152 s0 s9 ∧ (0 ≤ r9.toInt ∧ r9.toInt ≤ 1) ∧ (r9 = 0 → True) ∧ (¬ r9 = 0 → True)) := by
  induction n with
  | zero => intro v3 s hJ p_v3 hn; exact False.elim (by have g0 := hn; have g1 := p_v3; have g2 := i_rg v3; omega)
  | succ n ih =>
    intro v3 s hJ p_v3 hn
    unfold f_X0_takeMissing_25_15_b2
    refine oq_if (fun c1 => ?_) (fun c1 => ?_)
    · exact ⟨hJ, (by have f0 : (1 : Int32).toInt = 1 := rfl; omega), fun w9 => absurd w9 (by decide), fun _ => trivial⟩
    · refine oq_b (h_X4_isGone _ hJ.1 (by have f0 := p_v3; have f1 := i_rg v3; have f2 := i_nle c1; have f3 := j_rd hJ 25 13 0 8 rfl; omega)) (fun r1 s2 hs2 => ?_)
      have js2 : JC 2097152 s0 s2 := j_call hJ hs2.1 rfl
      refine oq_if (fun c2 => ?_) (fun c2 => ?_)
      · exact h_X0_takeMissing_25_15_b25 _ n ih _ _ _ js2 (by have f0 := p_v3; have f1 := i_rg v3; have f2 := i_nle c1; have f3 := j_rd hJ 25 13 0 8 rfl; omega) (by have g0 := p_v3; have g1 := i_rg v3; have g2 : (9999 : Int32).toInt = 9999 := rfl; have g3 := i_nle c1; have g4 := j_rd hJ 25 13 0 8 rfl; have g5 := hn; omega)
      · exact h_X0_takeMissing_25_15_b25 _ n ih _ _ _ js2 (by have f0 := p_v3; have f1 := i_rg v3; have f2 := i_nle c1; have f3 := j_rd hJ 25 13 0 8 rfl; omega) (by have g0 := p_v3; have g1 := i_rg v3; have g2 : (0 : Int32).toInt = 0 := rfl; have g3 := i_nle c1; have g4 := j_rd hJ 25 13 0 8 rfl; have g5 := hn; omega)
theorem h_X0_takeMissing_25_15  {s : Sg} (hR : Rg rC s) : OQ (f_X0_takeMissing_25_15  s) (fun r9 s9 => JC 2097152 s s9 ∧ (0 ≤ r9.toInt ∧ r9.toInt ≤ 1) ∧ (r9 = 0 → True) ∧ (¬ r9 = 0 → True)) := by
  have hJ : JC 2097152 s s := j_refl hR
  unfold f_X0_takeMissing_25_15
  exact h_X0_takeMissing_25_15_b2 BIG _ _ hJ (by have f0 : (0 : Int32).toInt = 0 := rfl; omega) (by have g0 : (0 : Int32).toInt = 0 := rfl; have g1 : BIG = 4294967296 := rfl; omega)
theorem h_X0_takeMissing_25_16_b25 {s0 : Sg} (k_2 : Int32 → Sg → Option (Int32 × Sg)) (m_2 : Nat) (hk_2 : ∀ (v3 : Int32) (s : Sg), JC 2097152 s0 s → 0 ≤ v3.toInt ∧ v3.toInt ≤ 8 → 8 - v3.toInt < (m_2 : Int) → OQ (k_2 v3 s) (fun r9 s9 => JC 2097152 s0 s9 ∧ (0 ≤ r9.toInt ∧ r9.toInt ≤ 1) ∧ (r9 = 0 → True) ∧ (¬ r9 = 0 → True))) (v3 : Int32) (t0 : Int64) (s : Sg) (hJ : JC 2097152 s0 s) (p_v3 : 0 ≤ v3.toInt ∧ v3.toInt ≤ 7) (hm_2 : 8 - v3.toInt < (m_2 : Int) + 1) : OQ (f_X0_takeMissing_25_16_b25 k_2 v3 t0 s) (fun r9 s9 => JC 2097152 s0 s9 ∧ (0 ≤ r9.toInt ∧ r9.toInt ≤ 1) ∧ (r9 = 0 → True) ∧ (¬ r9 = 0 → True)) := by
  unfold f_X0_takeMissing_25_16_b25
  refine oq_c (inr_of (by have f0 := p_v3; have f1 := i_rg v3; omega)) ?_
  refine oq_if (fun c1 => ?_) (fun c1 => ?_)
  · exact ⟨hJ, (by have f0 : (0 : Int32).toInt = 0 := rfl; omega), fun _ => trivial, fun w9 => absurd rfl w9⟩
  · refine oq_if (fun c2 => ?_) (fun c2 => ?_)
    · refine oq_c (inr_of (by have f0 := p_v3; have f1 := i_rg v3; omega)) ?_
      refine oq_n (fun s5 es5 => ?_)
      have js5 : JC 2097152 s0 s5 := by rw [es5]; exact (j_wf hJ rfl 21 rfl rfl)
      exact hk_2 _ _ js5 (by have f0 := i_add (v3) ((1 : Int32)); have f1 := p_v3; have f2 := i_rg v3; have f3 : (1 : Int32).toInt = 1 := rfl; omega) (by have g0 := i_add (v3) ((1 : Int32)); have g1 := p_v3; have g2 := i_rg v3; have g3 : (1 : Int32).toInt = 1 := rfl; have g4 := hm_2; omega)
    · exact ⟨hJ, (by have f0 : (0 : Int32).toInt = 0 := rfl; omega), fun _ => trivial, fun w9 => absurd rfl w9⟩
theorem h_X0_takeMissing_25_16_b2 {s0 : Sg} (n : Nat) : ∀ (v3 : Int32) (s : Sg), JC 2097152 s0 s → 0 ≤ v3.toInt ∧ v3.toInt ≤ 8 → 8 - v3.toInt < (n : Int) → OQ (f_X0_takeMissing_25_16_b2 n v3 s) (fun r9 s9 => JC 2097152 s0 s9 ∧ (0 ≤ r9.toInt ∧ r9.toInt ≤ 1) ∧ (r9 = 0 → True) ∧ (¬ r9 = 0 → True)) := by
  induction n with
  | zero => intro v3 s hJ p_v3 hn; exact False.elim (by have g0 := hn; have g1 := p_v3; have g2 := i_rg v3; omega)
  | succ n ih =>
    intro v3 s hJ p_v3 hn
    unfold f_X0_takeMissing_25_16_b2
    refine oq_if (fun c1 => ?_) (fun c1 => ?_)
    · exact ⟨hJ, (by have f0 : (1 : Int32).toInt = 1 := rfl; omega), fun w9 => absurd w9 (by decide), fun _ => trivial⟩
    · refine oq_b (h_X4_isGone _ hJ.1 (by have f0 := p_v3; have f1 := i_rg v3; have f2 := i_nle c1; have f3 := j_rd hJ 25 13 0 8 rfl; omega)) (fun r1 s2 hs2 => ?_)
      have js2 : JC 2097152 s0 s2 := j_call hJ hs2.1 rfl
      refine oq_if (fun c2 => ?_) (fun c2 => ?_)
      · exact h_X0_takeMissing_25_16_b25 _ n ih _ _ _ js2 (by have f0 := p_v3; have f1 := i_rg v3; have f2 := i_nle c1; have f3 := j_rd hJ 25 13 0 8 rfl; omega) (by have g0 := p_v3; have g1 := i_rg v3; have g2 : (9999 : Int32).toInt = 9999 := rfl; have g3 := i_nle c1; have g4 := j_rd hJ 25 13 0 8 rfl; have g5 := hn; omega)
      · exact h_X0_takeMissing_25_16_b25 _ n ih _ _ _ js2 (by have f0 := p_v3; have f1 := i_rg v3; have f2 := i_nle c1; have f3 := j_rd hJ 25 13 0 8 rfl; omega) (by have g0 := p_v3; have g1 := i_rg v3; have g2 : (0 : Int32).toInt = 0 := rfl; have g3 := i_nle c1; have g4 := j_rd hJ 25 13 0 8 rfl; have g5 := hn; omega)
theorem h_X0_takeMissing_25_16  {s : Sg} (hR : Rg rC s) : OQ (f_X0_takeMissing_25_16  s) (fun r9 s9 => JC 2097152 s s9 ∧ (0 ≤ r9.toInt ∧ r9.toInt ≤ 1) ∧ (r9 = 0 → True) ∧ (¬ r9 = 0 → True)) := by
  have hJ : JC 2097152 s s := j_refl hR
  unfold f_X0_takeMissing_25_16
  exact h_X0_takeMissing_25_16_b2 BIG _ _ hJ (by have f0 : (0 : Int32).toInt = 0 := rfl; omega) (by have g0 : (0 : Int32).toInt = 0 := rfl; have g1 : BIG = 4294967296 := rfl; omega)
theorem h_X0_takeMissing_25_17_b25 {s0 : Sg} (k_2 : Int32 → Sg → Option (Int32 × Sg)) (m_2 : Nat) (hk_2 : ∀ (v3 : Int32) (s : Sg), JC 2097152 s0 s → 0 ≤ v3.toInt ∧ v3.toInt ≤ 8 → 8 - v3.toInt < (m_2 : Int) → OQ (k_2 v3 s) (fun r9 s9 => JC 2097152 s0 s9 ∧ (0 ≤ r9.toInt ∧ r9.toInt ≤ 1) ∧ (r9 = 0 → True) ∧ (¬ r9 = 0 → True))) (v3 : Int32) (t0 : Int64) (s : Sg) (hJ : JC 2097152 s0 s) (p_v3 : 0 ≤ v3.toInt ∧ v3.toInt ≤ 7) (hm_2 : 8 - v3.toInt < (m_2 : Int) + 1) : OQ (f_X0_takeMissing_25_17_b25 k_2 v3 t0 s) (fun r9 s9 => JC 2097152 s0 s9 ∧ (0 ≤ r9.toInt ∧ r9.toInt ≤ 1) ∧ (r9 = 0 → True) ∧ (¬ r9 = 0 → True)) := by
  unfold f_X0_takeMissing_25_17_b25
  refine oq_c (inr_of (by have f0 := p_v3; have f1 := i_rg v3; omega)) ?_
  refine oq_if (fun c1 => ?_) (fun c1 => ?_)
  · exact ⟨hJ, (by have f0 : (0 : Int32).toInt = 0 := rfl; omega), fun _ => trivial, fun w9 => absurd rfl w9⟩
  · refine oq_if (fun c2 => ?_) (fun c2 => ?_)
    · refine oq_c (inr_of (by have f0 := p_v3; have f1 := i_rg v3; omega)) ?_
      refine oq_n (fun s5 es5 => ?_)
      have js5 : JC 2097152 s0 s5 := by rw [es5]; exact (j_wf hJ rfl 21 rfl rfl)
      exact hk_2 _ _ js5 (by have f0 := i_add (v3) ((1 : Int32)); have f1 := p_v3; have f2 := i_rg v3; have f3 : (1 : Int32).toInt = 1 := rfl; omega) (by have g0 := i_add (v3) ((1 : Int32)); have g1 := p_v3; have g2 := i_rg v3; have g3 : (1 : Int32).toInt = 1 := rfl; have g4 := hm_2; omega)
    · exact ⟨hJ, (by have f0 : (0 : Int32).toInt = 0 := rfl; omega), fun _ => trivial, fun w9 => absurd rfl w9⟩
theorem h_X0_takeMissing_25_17_b2 {s0 : Sg} (n : Nat) : ∀ (v3 : Int32) (s : Sg), JC 2097152 s0 s → 0 ≤ v3.toInt ∧ v3.toInt ≤ 8 → 8 - v3.toInt < (n : Int) → OQ (f_X0_takeMissing_25_17_b2 n v3 s) (fun r9 s9 => JC 2097152 s0 s9 ∧ (0 ≤ r9.toInt ∧ r9.toInt ≤ 1) ∧ (r9 = 0 → True) ∧ (¬ r9 = 0 → True)) := by
  induction n with
  | zero => intro v3 s hJ p_v3 hn; exact False.elim (by have g0 := hn; have g1 := p_v3; have g2 := i_rg v3; omega)
  | succ n ih =>
    intro v3 s hJ p_v3 hn
    unfold f_X0_takeMissing_25_17_b2
    refine oq_if (fun c1 => ?_) (fun c1 => ?_)
    · exact ⟨hJ, (by have f0 : (1 : Int32).toInt = 1 := rfl; omega), fun w9 => absurd w9 (by decide), fun _ => trivial⟩
    · refine oq_b (h_X4_isGone _ hJ.1 (by have f0 := p_v3; have f1 := i_rg v3; have f2 := i_nle c1; have f3 := j_rd hJ 25 13 0 8 rfl; omega)) (fun r1 s2 hs2 => ?_)
      have js2 : JC 2097152 s0 s2 := j_call hJ hs2.1 rfl
      refine oq_if (fun c2 => ?_) (fun c2 => ?_)
      · exact h_X0_takeMissing_25_17_b25 _ n ih _ _ _ js2 (by have f0 := p_v3; have f1 := i_rg v3; have f2 := i_nle c1; have f3 := j_rd hJ 25 13 0 8 rfl; omega) (by have g0 := p_v3; have g1 := i_rg v3; have g2 : (9999 : Int32).toInt = 9999 := rfl; have g3 := i_nle c1; have g4 := j_rd hJ 25 13 0 8 rfl; have g5 := hn; omega)
      · exact h_X0_takeMissing_25_17_b25 _ n ih _ _ _ js2 (by have f0 := p_v3; have f1 := i_rg v3; have f2 := i_nle c1; have f3 := j_rd hJ 25 13 0 8 rfl; omega) (by have g0 := p_v3; have g1 := i_rg v3; have g2 : (0 : Int32).toInt = 0 := rfl; have g3 := i_nle c1; have g4 := j_rd hJ 25 13 0 8 rfl; have g5 := hn; omega)
theorem h_X0_takeMissing_25_17  {s : Sg} (hR : Rg rC s) : OQ (f_X0_takeMissing_25_17  s) (fun r9 s9 => JC 2097152 s s9 ∧ (0 ≤ r9.toInt ∧ r9.toInt ≤ 1) ∧ (r9 = 0 → True) ∧ (¬ r9 = 0 → True)) := by
  have hJ : JC 2097152 s s := j_refl hR
  unfold f_X0_takeMissing_25_17
  exact h_X0_takeMissing_25_17_b2 BIG _ _ hJ (by have f0 : (0 : Int32).toInt = 0 := rfl; omega) (by have g0 : (0 : Int32).toInt = 0 := rfl; have g1 : BIG = 4294967296 := rfl; omega)
theorem h_X11_who (a1 : Int32) (a2 : Int32) {s : Sg} (hR : Rg rC s) : OQ (f_X11_who a1 a2 s) (fun r9 s9 => JC 47890485652059026823698344598447161988085597574529024 s s9 ∧ True ∧ (r9 = 0 → 0 ≤ (a1).toInt ∧ (a1).toInt ≤ 3 ∧ 1 ≤ (a2).toInt ∧ (a2).toInt ≤ 999) ∧ (¬ r9 = 0 → True)) := by
  have hJ : JC 47890485652059026823698344598447161988085597574529024 s s := j_refl hR
  unfold f_X11_who
  refine oq_b (h_X11_isTray _ hJ.1) (fun r1 s2 hs2 => ?_)
  have js2 : JC 47890485652059026823698344598447161988085597574529024 s s2 := j_call hJ hs2.1 rfl
  refine oq_if (fun c1 => ?_) (fun c1 => ?_)
  · refine oq_b (h_X11_refuse _ js2.1 (by have f0 : (1 : Int32).toInt = 1 := rfl; omega)) (fun r3 s4 hs4 => ?_)
    have js4 : JC 47890485652059026823698344598447161988085597574529024 s s4 := j_call js2 hs4.1 rfl
    exact ⟨js4, trivial, fun w9 => False.elim (by have f0 := hs4.2.1; have f1 := i_rg r3; have f2 := i_eq w9; have f3 : (0 : Int32).toInt = 0 := rfl; omega), fun _ => trivial⟩
  · refine oq_b (h_X11_within _ _ _ js2.1 (by have f0 : (1 : Int32).toInt = 1 := rfl; omega) (by have f0 : (999 : Int32).toInt = 999 := rfl; omega)) (fun r5 s6 hs6 => ?_)
    have js6 : JC 47890485652059026823698344598447161988085597574529024 s s6 := j_call js2 hs6.1 rfl
    refine oq_if (fun c2 => ?_) (fun c2 => ?_)
    · refine oq_b (h_X11_refuse _ js6.1 (by have f0 : (1 : Int32).toInt = 1 := rfl; omega)) (fun r7 s8 hs8 => ?_)
      have js8 : JC 47890485652059026823698344598447161988085597574529024 s s8 := j_call js6 hs8.1 rfl
      exact ⟨js8, trivial, fun w9 => False.elim (by have f0 := hs8.2.1; have f1 := i_rg r7; have f2 := i_eq w9; have f3 : (0 : Int32).toInt = 0 := rfl; omega), fun _ => trivial⟩
    · refine oq_c (inr_of (by have f0 := i_rg a1; have f1 := (hs2.2.2.2 c1).1; have f2 := (hs2.2.2.2 c1).2; have f3 := (hs6.2.2.2 c2).2.2.2; have f4 : (0 : Int32).toInt = 0 := rfl; have f5 : (3 : Int32).toInt = 3 := rfl; have f6 : (999 : Int32).toInt = 999 := rfl; omega)) ?_
      refine oq_s4 (inr_of (by have f0 := i_rg a1; have f1 := (hs2.2.2.2 c1).1; have f2 := (hs2.2.2.2 c1).2; have f3 := (hs6.2.2.2 c2).2.2.2; have f4 : (0 : Int32).toInt = 0 := rfl; have f5 : (3 : Int32).toInt = 3 := rfl; have f6 : (999 : Int32).toInt = 999 := rfl; omega)) (fun ek2 => ?_) (fun ek2 => ?_) (fun ek2 => ?_) (fun ek2 => ?_)
      · refine oq_if (fun c4 => ?_) (fun c4 => ?_)
        · refine oq_b (h_X11_refuse _ js6.1 (by have f0 : (2 : Int32).toInt = 2 := rfl; have f1 := (hs6.2.2.2 c2).2.2.2; have f2 : (0 : Int32).toInt = 0 := rfl; have f3 : (999 : Int32).toInt = 999 := rfl; omega)) (fun r10 s11 hs11 => ?_)
          have js11 : JC 47890485652059026823698344598447161988085597574529024 s s11 := j_call js6 hs11.1 rfl
          exact ⟨js11, trivial, fun w9 => False.elim (by have f0 := hs11.2.1; have f1 := i_rg r10; have f2 := (hs6.2.2.2 c2).2.2.2; have f3 := i_eq w9; have f4 : (0 : Int32).toInt = 0 := rfl; have f5 : (999 : Int32).toInt = 999 := rfl; omega), fun _ => trivial⟩
        · refine oq_if (fun c5 => ?_) (fun c5 => ?_)
          · refine oq_b (h_X0_takeMissing_25_14  js6.1) (fun r12 s13 hs13 => ?_)
            have js13 : JC 47890485652059026823698344598447161988085597574529024 s s13 := j_call js6 hs13.1 rfl
            refine oq_if (fun c6 => ?_) (fun c6 => ?_)
            · refine oq_b (h_X11_refuse _ js13.1 (by have f0 : (5 : Int32).toInt = 5 := rfl; have f1 := (hs6.2.2.2 c2).2.2.2; have f2 : (0 : Int32).toInt = 0 := rfl; have f3 : (999 : Int32).toInt = 999 := rfl; omega)) (fun r14 s15 hs15 => ?_)
              have js15 : JC 47890485652059026823698344598447161988085597574529024 s s15 := j_call js13 hs15.1 rfl
              exact ⟨js15, trivial, fun w9 => False.elim (by have f0 := hs15.2.1; have f1 := i_rg r14; have f2 := (hs6.2.2.2 c2).2.2.2; have f3 := i_eq w9; have f4 : (0 : Int32).toInt = 0 := rfl; have f5 : (999 : Int32).toInt = 999 := rfl; omega), fun _ => trivial⟩
            · refine oq_b (h_X0_fewestSweepers _ _ js13.1 (by have f0 := j_rd js13 25 13 0 8 rfl; have f1 := (hs6.2.2.2 c2).2.2.2; have f2 : (0 : Int32).toInt = 0 := rfl; have f3 : (999 : Int32).toInt = 999 := rfl; omega) (by have f0 := i_rg a2; have f1 := (hs6.2.2.2 c2).1; have f2 := (hs6.2.2.2 c2).2.1; have f3 := (hs6.2.2.2 c2).2.2.1; have f4 := (hs6.2.2.2 c2).2.2.2; have f5 : (1 : Int32).toInt = 1 := rfl; have f6 : (999 : Int32).toInt = 999 := rfl; have f7 : (0 : Int32).toInt = 0 := rfl; omega)) (fun r16 s17 hs17 => ?_)
              have js17 : JC 47890485652059026823698344598447161988085597574529024 s s17 := j_call js13 hs17.1 rfl
              refine oq_b (h_X11_answerIfAny _ js17.1 (by have f0 := hs17.2.1; have f1 := i_rg r16; have f2 := (hs6.2.2.2 c2).2.2.2; have f3 : (0 : Int32).toInt = 0 := rfl; have f4 : (999 : Int32).toInt = 999 := rfl; omega)) (fun r18 s19 hs19 => ?_)
              have js19 : JC 47890485652059026823698344598447161988085597574529024 s s19 := j_call js17 hs19.1 rfl
              exact ⟨js19, trivial, fun w9 => ⟨(by have f0 : (0 : Int32).toInt = 0 := rfl; have f1 := i_rg a1; have f2 := (hs2.2.2.2 c1).1; have f3 := (hs2.2.2.2 c1).2; have f4 := (hs6.2.2.2 c2).2.2.2; have f5 := ek2; have f6 : (3 : Int32).toInt = 3 := rfl; have f7 : (999 : Int32).toInt = 999 := rfl; omega), (by have f0 := i_rg a1; have f1 : (3 : Int32).toInt = 3 := rfl; have f2 := (hs2.2.2.2 c1).1; have f3 := (hs2.2.2.2 c1).2; have f4 := (hs6.2.2.2 c2).2.2.2; have f5 := ek2; have f6 : (0 : Int32).toInt = 0 := rfl; have f7 : (999 : Int32).toInt = 999 := rfl; omega), (by have f0 : (1 : Int32).toInt = 1 := rfl; have f1 := i_rg a2; have f2 := (hs6.2.2.2 c2).1; have f3 := (hs6.2.2.2 c2).2.1; have f4 := (hs6.2.2.2 c2).2.2.1; have f5 := (hs6.2.2.2 c2).2.2.2; have f6 : (999 : Int32).toInt = 999 := rfl; have f7 : (0 : Int32).toInt = 0 := rfl; omega), (by have f0 := i_rg a2; have f1 : (999 : Int32).toInt = 999 := rfl; have f2 := (hs6.2.2.2 c2).1; have f3 := (hs6.2.2.2 c2).2.1; have f4 := (hs6.2.2.2 c2).2.2.1; have f5 := (hs6.2.2.2 c2).2.2.2; have f6 : (1 : Int32).toInt = 1 := rfl; have f7 : (0 : Int32).toInt = 0 := rfl; omega)⟩, fun _ => trivial⟩
          · refine oq_b (h_X11_refuse _ js6.1 (by have f0 : (3 : Int32).toInt = 3 := rfl; have f1 := (hs6.2.2.2 c2).2.2.2; have f2 : (0 : Int32).toInt = 0 := rfl; have f3 : (999 : Int32).toInt = 999 := rfl; omega)) (fun r20 s21 hs21 => ?_)
            have js21 : JC 47890485652059026823698344598447161988085597574529024 s s21 := j_call js6 hs21.1 rfl
            exact ⟨js21, trivial, fun w9 => False.elim (by have f0 := hs21.2.1; have f1 := i_rg r20; have f2 := (hs6.2.2.2 c2).2.2.2; have f3 := i_eq w9; have f4 : (0 : Int32).toInt = 0 := rfl; have f5 : (999 : Int32).toInt = 999 := rfl; omega), fun _ => trivial⟩
      · refine oq_if (fun c7 => ?_) (fun c7 => ?_)
        · refine oq_b (h_X11_refuse _ js6.1 (by have f0 : (2 : Int32).toInt = 2 := rfl; have f1 := (hs6.2.2.2 c2).2.2.2; have f2 : (0 : Int32).toInt = 0 := rfl; have f3 : (999 : Int32).toInt = 999 := rfl; omega)) (fun r22 s23 hs23 => ?_)
          have js23 : JC 47890485652059026823698344598447161988085597574529024 s s23 := j_call js6 hs23.1 rfl
          exact ⟨js23, trivial, fun w9 => False.elim (by have f0 := hs23.2.1; have f1 := i_rg r22; have f2 := (hs6.2.2.2 c2).2.2.2; have f3 := i_eq w9; have f4 : (0 : Int32).toInt = 0 := rfl; have f5 : (999 : Int32).toInt = 999 := rfl; omega), fun _ => trivial⟩
        · refine oq_if (fun c8 => ?_) (fun c8 => ?_)
          · refine oq_b (h_X0_takeMissing_25_15  js6.1) (fun r24 s25 hs25 => ?_)
            have js25 : JC 47890485652059026823698344598447161988085597574529024 s s25 := j_call js6 hs25.1 rfl
            refine oq_if (fun c9 => ?_) (fun c9 => ?_)
            · refine oq_b (h_X11_refuse _ js25.1 (by have f0 : (5 : Int32).toInt = 5 := rfl; have f1 := (hs6.2.2.2 c2).2.2.2; have f2 : (0 : Int32).toInt = 0 := rfl; have f3 : (999 : Int32).toInt = 999 := rfl; omega)) (fun r26 s27 hs27 => ?_)
              have js27 : JC 47890485652059026823698344598447161988085597574529024 s s27 := j_call js25 hs27.1 rfl
              exact ⟨js27, trivial, fun w9 => False.elim (by have f0 := hs27.2.1; have f1 := i_rg r26; have f2 := (hs6.2.2.2 c2).2.2.2; have f3 := i_eq w9; have f4 : (0 : Int32).toInt = 0 := rfl; have f5 : (999 : Int32).toInt = 999 := rfl; omega), fun _ => trivial⟩
            · refine oq_b (h_X0_fewestSweepers _ _ js25.1 (by have f0 := j_rd js25 25 13 0 8 rfl; have f1 := (hs6.2.2.2 c2).2.2.2; have f2 : (0 : Int32).toInt = 0 := rfl; have f3 : (999 : Int32).toInt = 999 := rfl; omega) (by have f0 := i_rg a2; have f1 := (hs6.2.2.2 c2).1; have f2 := (hs6.2.2.2 c2).2.1; have f3 := (hs6.2.2.2 c2).2.2.1; have f4 := (hs6.2.2.2 c2).2.2.2; have f5 : (1 : Int32).toInt = 1 := rfl; have f6 : (999 : Int32).toInt = 999 := rfl; have f7 : (0 : Int32).toInt = 0 := rfl; omega)) (fun r28 s29 hs29 => ?_)
              have js29 : JC 47890485652059026823698344598447161988085597574529024 s s29 := j_call js25 hs29.1 rfl
              refine oq_b (h_X11_answerIfAny _ js29.1 (by have f0 := hs29.2.1; have f1 := i_rg r28; have f2 := (hs6.2.2.2 c2).2.2.2; have f3 : (0 : Int32).toInt = 0 := rfl; have f4 : (999 : Int32).toInt = 999 := rfl; omega)) (fun r30 s31 hs31 => ?_)
              have js31 : JC 47890485652059026823698344598447161988085597574529024 s s31 := j_call js29 hs31.1 rfl
              exact ⟨js31, trivial, fun w9 => ⟨(by have f0 : (0 : Int32).toInt = 0 := rfl; have f1 := i_rg a1; have f2 := (hs2.2.2.2 c1).1; have f3 := (hs2.2.2.2 c1).2; have f4 := (hs6.2.2.2 c2).2.2.2; have f5 := ek2; have f6 : (3 : Int32).toInt = 3 := rfl; have f7 : (999 : Int32).toInt = 999 := rfl; have f8 : (1 : Int32).toInt = 1 := rfl; omega), (by have f0 := i_rg a1; have f1 : (3 : Int32).toInt = 3 := rfl; have f2 := (hs2.2.2.2 c1).1; have f3 := (hs2.2.2.2 c1).2; have f4 := (hs6.2.2.2 c2).2.2.2; have f5 := ek2; have f6 : (0 : Int32).toInt = 0 := rfl; have f7 : (999 : Int32).toInt = 999 := rfl; have f8 : (1 : Int32).toInt = 1 := rfl; omega), (by have f0 : (1 : Int32).toInt = 1 := rfl; have f1 := i_rg a2; have f2 := (hs6.2.2.2 c2).1; have f3 := (hs6.2.2.2 c2).2.1; have f4 := (hs6.2.2.2 c2).2.2.1; have f5 := (hs6.2.2.2 c2).2.2.2; have f6 : (999 : Int32).toInt = 999 := rfl; have f7 : (0 : Int32).toInt = 0 := rfl; omega), (by have f0 := i_rg a2; have f1 : (999 : Int32).toInt = 999 := rfl; have f2 := (hs6.2.2.2 c2).1; have f3 := (hs6.2.2.2 c2).2.1; have f4 := (hs6.2.2.2 c2).2.2.1; have f5 := (hs6.2.2.2 c2).2.2.2; have f6 : (1 : Int32).toInt = 1 := rfl; have f7 : (0 : Int32).toInt = 0 := rfl; omega)⟩, fun _ => trivial⟩
          · refine oq_b (h_X11_refuse _ js6.1 (by have f0 : (3 : Int32).toInt = 3 := rfl; have f1 := (hs6.2.2.2 c2).2.2.2; have f2 : (0 : Int32).toInt = 0 := rfl; have f3 : (999 : Int32).toInt = 999 := rfl; omega)) (fun r32 s33 hs33 => ?_)
            have js33 : JC 47890485652059026823698344598447161988085597574529024 s s33 := j_call js6 hs33.1 rfl
            exact ⟨js33, trivial, fun w9 => False.elim (by have f0 := hs33.2.1; have f1 := i_rg r32; have f2 := (hs6.2.2.2 c2).2.2.2; have f3 := i_eq w9; have f4 : (0 : Int32).toInt = 0 := rfl; have f5 : (999 : Int32).toInt = 999 := rfl; omega), fun _ => trivial⟩
      · refine oq_if (fun c10 => ?_) (fun c10 => ?_)
        · refine oq_b (h_X11_refuse _ js6.1 (by have f0 : (2 : Int32).toInt = 2 := rfl; have f1 := (hs6.2.2.2 c2).2.2.2; have f2 : (0 : Int32).toInt = 0 := rfl; have f3 : (999 : Int32).toInt = 999 := rfl; omega)) (fun r34 s35 hs35 => ?_)
          have js35 : JC 47890485652059026823698344598447161988085597574529024 s s35 := j_call js6 hs35.1 rfl
          exact ⟨js35, trivial, fun w9 => False.elim (by have f0 := hs35.2.1; have f1 := i_rg r34; have f2 := (hs6.2.2.2 c2).2.2.2; have f3 := i_eq w9; have f4 : (0 : Int32).toInt = 0 := rfl; have f5 : (999 : Int32).toInt = 999 := rfl; omega), fun _ => trivial⟩
        · refine oq_if (fun c11 => ?_) (fun c11 => ?_)
          · refine oq_b (h_X0_takeMissing_25_16  js6.1) (fun r36 s37 hs37 => ?_)
            have js37 : JC 47890485652059026823698344598447161988085597574529024 s s37 := j_call js6 hs37.1 rfl
            refine oq_if (fun c12 => ?_) (fun c12 => ?_)
            · refine oq_b (h_X11_refuse _ js37.1 (by have f0 : (5 : Int32).toInt = 5 := rfl; have f1 := (hs6.2.2.2 c2).2.2.2; have f2 : (0 : Int32).toInt = 0 := rfl; have f3 : (999 : Int32).toInt = 999 := rfl; omega)) (fun r38 s39 hs39 => ?_)
              have js39 : JC 47890485652059026823698344598447161988085597574529024 s s39 := j_call js37 hs39.1 rfl
              exact ⟨js39, trivial, fun w9 => False.elim (by have f0 := hs39.2.1; have f1 := i_rg r38; have f2 := (hs6.2.2.2 c2).2.2.2; have f3 := i_eq w9; have f4 : (0 : Int32).toInt = 0 := rfl; have f5 : (999 : Int32).toInt = 999 := rfl; omega), fun _ => trivial⟩
            · refine oq_b (h_X0_fewestSweepers _ _ js37.1 (by have f0 := j_rd js37 25 13 0 8 rfl; have f1 := (hs6.2.2.2 c2).2.2.2; have f2 : (0 : Int32).toInt = 0 := rfl; have f3 : (999 : Int32).toInt = 999 := rfl; omega) (by have f0 := i_rg a2; have f1 := (hs6.2.2.2 c2).1; have f2 := (hs6.2.2.2 c2).2.1; have f3 := (hs6.2.2.2 c2).2.2.1; have f4 := (hs6.2.2.2 c2).2.2.2; have f5 : (1 : Int32).toInt = 1 := rfl; have f6 : (999 : Int32).toInt = 999 := rfl; have f7 : (0 : Int32).toInt = 0 := rfl; omega)) (fun r40 s41 hs41 => ?_)
              have js41 : JC 47890485652059026823698344598447161988085597574529024 s s41 := j_call js37 hs41.1 rfl
              refine oq_b (h_X11_answerIfAny _ js41.1 (by have f0 := hs41.2.1; have f1 := i_rg r40; have f2 := (hs6.2.2.2 c2).2.2.2; have f3 : (0 : Int32).toInt = 0 := rfl; have f4 : (999 : Int32).toInt = 999 := rfl; omega)) (fun r42 s43 hs43 => ?_)
              have js43 : JC 47890485652059026823698344598447161988085597574529024 s s43 := j_call js41 hs43.1 rfl
              exact ⟨js43, trivial, fun w9 => ⟨(by have f0 : (0 : Int32).toInt = 0 := rfl; have f1 := i_rg a1; have f2 := (hs2.2.2.2 c1).1; have f3 := (hs2.2.2.2 c1).2; have f4 := (hs6.2.2.2 c2).2.2.2; have f5 := ek2; have f6 : (3 : Int32).toInt = 3 := rfl; have f7 : (999 : Int32).toInt = 999 := rfl; have f8 : (2 : Int32).toInt = 2 := rfl; omega), (by have f0 := i_rg a1; have f1 : (3 : Int32).toInt = 3 := rfl; have f2 := (hs2.2.2.2 c1).1; have f3 := (hs2.2.2.2 c1).2; have f4 := (hs6.2.2.2 c2).2.2.2; have f5 := ek2; have f6 : (0 : Int32).toInt = 0 := rfl; have f7 : (999 : Int32).toInt = 999 := rfl; have f8 : (2 : Int32).toInt = 2 := rfl; omega), (by have f0 : (1 : Int32).toInt = 1 := rfl; have f1 := i_rg a2; have f2 := (hs6.2.2.2 c2).1; have f3 := (hs6.2.2.2 c2).2.1; have f4 := (hs6.2.2.2 c2).2.2.1; have f5 := (hs6.2.2.2 c2).2.2.2; have f6 : (999 : Int32).toInt = 999 := rfl; have f7 : (0 : Int32).toInt = 0 := rfl; omega), (by have f0 := i_rg a2; have f1 : (999 : Int32).toInt = 999 := rfl; have f2 := (hs6.2.2.2 c2).1; have f3 := (hs6.2.2.2 c2).2.1; have f4 := (hs6.2.2.2 c2).2.2.1; have f5 := (hs6.2.2.2 c2).2.2.2; have f6 : (1 : Int32).toInt = 1 := rfl; have f7 : (0 : Int32).toInt = 0 := rfl; omega)⟩, fun _ => trivial⟩
          · refine oq_b (h_X11_refuse _ js6.1 (by have f0 : (3 : Int32).toInt = 3 := rfl; have f1 := (hs6.2.2.2 c2).2.2.2; have f2 : (0 : Int32).toInt = 0 := rfl; have f3 : (999 : Int32).toInt = 999 := rfl; omega)) (fun r44 s45 hs45 => ?_)
            have js45 : JC 47890485652059026823698344598447161988085597574529024 s s45 := j_call js6 hs45.1 rfl
            exact ⟨js45, trivial, fun w9 => False.elim (by have f0 := hs45.2.1; have f1 := i_rg r44; have f2 := (hs6.2.2.2 c2).2.2.2; have f3 := i_eq w9; have f4 : (0 : Int32).toInt = 0 := rfl; have f5 : (999 : Int32).toInt = 999 := rfl; omega), fun _ => trivial⟩
      · refine oq_if (fun c13 => ?_) (fun c13 => ?_)
        · refine oq_b (h_X11_refuse _ js6.1 (by have f0 : (2 : Int32).toInt = 2 := rfl; have f1 := (hs6.2.2.2 c2).2.2.2; have f2 : (0 : Int32).toInt = 0 := rfl; have f3 : (999 : Int32).toInt = 999 := rfl; omega)) (fun r46 s47 hs47 => ?_)
          have js47 : JC 47890485652059026823698344598447161988085597574529024 s s47 := j_call js6 hs47.1 rfl
          exact ⟨js47, trivial, fun w9 => False.elim (by have f0 := hs47.2.1; have f1 := i_rg r46; have f2 := (hs6.2.2.2 c2).2.2.2; have f3 := i_eq w9; have f4 : (0 : Int32).toInt = 0 := rfl; have f5 : (999 : Int32).toInt = 999 := rfl; omega), fun _ => trivial⟩
        · refine oq_if (fun c14 => ?_) (fun c14 => ?_)
          · refine oq_b (h_X0_takeMissing_25_17  js6.1) (fun r48 s49 hs49 => ?_)
            have js49 : JC 47890485652059026823698344598447161988085597574529024 s s49 := j_call js6 hs49.1 rfl
            refine oq_if (fun c15 => ?_) (fun c15 => ?_)
            · refine oq_b (h_X11_refuse _ js49.1 (by have f0 : (5 : Int32).toInt = 5 := rfl; have f1 := (hs6.2.2.2 c2).2.2.2; have f2 : (0 : Int32).toInt = 0 := rfl; have f3 : (999 : Int32).toInt = 999 := rfl; omega)) (fun r50 s51 hs51 => ?_)
              have js51 : JC 47890485652059026823698344598447161988085597574529024 s s51 := j_call js49 hs51.1 rfl
              exact ⟨js51, trivial, fun w9 => False.elim (by have f0 := hs51.2.1; have f1 := i_rg r50; have f2 := (hs6.2.2.2 c2).2.2.2; have f3 := i_eq w9; have f4 : (0 : Int32).toInt = 0 := rfl; have f5 : (999 : Int32).toInt = 999 := rfl; omega), fun _ => trivial⟩
            · refine oq_b (h_X0_fewestSweepers _ _ js49.1 (by have f0 := j_rd js49 25 13 0 8 rfl; have f1 := (hs6.2.2.2 c2).2.2.2; have f2 : (0 : Int32).toInt = 0 := rfl; have f3 : (999 : Int32).toInt = 999 := rfl; omega) (by have f0 := i_rg a2; have f1 := (hs6.2.2.2 c2).1; have f2 := (hs6.2.2.2 c2).2.1; have f3 := (hs6.2.2.2 c2).2.2.1; have f4 := (hs6.2.2.2 c2).2.2.2; have f5 : (1 : Int32).toInt = 1 := rfl; have f6 : (999 : Int32).toInt = 999 := rfl; have f7 : (0 : Int32).toInt = 0 := rfl; omega)) (fun r52 s53 hs53 => ?_)
              have js53 : JC 47890485652059026823698344598447161988085597574529024 s s53 := j_call js49 hs53.1 rfl
              refine oq_b (h_X11_answerIfAny _ js53.1 (by have f0 := hs53.2.1; have f1 := i_rg r52; have f2 := (hs6.2.2.2 c2).2.2.2; have f3 : (0 : Int32).toInt = 0 := rfl; have f4 : (999 : Int32).toInt = 999 := rfl; omega)) (fun r54 s55 hs55 => ?_)
              have js55 : JC 47890485652059026823698344598447161988085597574529024 s s55 := j_call js53 hs55.1 rfl
              exact ⟨js55, trivial, fun w9 => ⟨(by have f0 : (0 : Int32).toInt = 0 := rfl; have f1 := i_rg a1; have f2 := (hs2.2.2.2 c1).1; have f3 := (hs2.2.2.2 c1).2; have f4 := (hs6.2.2.2 c2).2.2.2; have f5 := ek2; have f6 : (3 : Int32).toInt = 3 := rfl; have f7 : (999 : Int32).toInt = 999 := rfl; omega), (by have f0 := i_rg a1; have f1 : (3 : Int32).toInt = 3 := rfl; have f2 := (hs2.2.2.2 c1).1; have f3 := (hs2.2.2.2 c1).2; have f4 := (hs6.2.2.2 c2).2.2.2; have f5 := ek2; have f6 : (0 : Int32).toInt = 0 := rfl; have f7 : (999 : Int32).toInt = 999 := rfl; omega), (by have f0 : (1 : Int32).toInt = 1 := rfl; have f1 := i_rg a2; have f2 := (hs6.2.2.2 c2).1; have f3 := (hs6.2.2.2 c2).2.1; have f4 := (hs6.2.2.2 c2).2.2.1; have f5 := (hs6.2.2.2 c2).2.2.2; have f6 : (999 : Int32).toInt = 999 := rfl; have f7 : (0 : Int32).toInt = 0 := rfl; omega), (by have f0 := i_rg a2; have f1 : (999 : Int32).toInt = 999 := rfl; have f2 := (hs6.2.2.2 c2).1; have f3 := (hs6.2.2.2 c2).2.1; have f4 := (hs6.2.2.2 c2).2.2.1; have f5 := (hs6.2.2.2 c2).2.2.2; have f6 : (1 : Int32).toInt = 1 := rfl; have f7 : (0 : Int32).toInt = 0 := rfl; omega)⟩, fun _ => trivial⟩
          · refine oq_b (h_X11_refuse _ js6.1 (by have f0 : (3 : Int32).toInt = 3 := rfl; have f1 := (hs6.2.2.2 c2).2.2.2; have f2 : (0 : Int32).toInt = 0 := rfl; have f3 : (999 : Int32).toInt = 999 := rfl; omega)) (fun r56 s57 hs57 => ?_)
            have js57 : JC 47890485652059026823698344598447161988085597574529024 s s57 := j_call js6 hs57.1 rfl
            exact ⟨js57, trivial, fun w9 => False.elim (by have f0 := hs57.2.1; have f1 := i_rg r56; have f2 := (hs6.2.2.2 c2).2.2.2; have f3 := i_eq w9; have f4 : (0 : Int32).toInt = 0 := rfl; have f5 : (999 : Int32).toInt = 999 := rfl; omega), fun _ => trivial⟩
theorem h_X11_waysToTaste_b5 {s0 : Sg} (n : Nat) : ∀ (v0 : Int32) (v1 : Int32) (v2 : Int64) (v4 : Int32) (s : Sg), JC 0 s0 s → 0 ≤ v4.toInt ∧ v4.toInt ≤ 2147483647 → 2147483647 - v4.toInt < (n : Int) → OQ (f_X11_waysToTaste_b5 n v0 v1 v2 v4 s) (fun _ s9 => JC 0 s0 s9 ∧ True) := by
  induction n with
  | zero => intro v0 v1 v2 v4 s hJ p_v4 hn; exact False.elim (by have g0 := hn; have g1 := p_v4; have g2 := i_rg v0; have g3 := i_rg v1; have g4 := i_rg v4; omega)
  | succ n ih =>
    intro v0 v1 v2 v4 s hJ p_v4 hn
    unfold f_X11_waysToTaste_b5
    refine oq_if (fun c1 => ?_) (fun c1 => ?_)
    · exact ⟨hJ, trivial⟩
    · refine oq_n (fun x1 ex1 => ?_)
      exact ih _ _ _ _ _ hJ (by have f0 := i_add (v4) ((1 : Int32)); have f1 := p_v4; have f2 := i_rg v4; have f3 : (1 : Int32).toInt = 1 := rfl; have f4 := i_nle c1; have f5 := i_rg v1; omega) (by have g0 := i_add (v4) ((1 : Int32)); have g1 := i_rg v0; have g2 := i_rg v1; have g3 := p_v4; have g4 := i_rg v4; have g5 : (1 : Int32).toInt = 1 := rfl; have g6 := i_nle c1; have g7 := hn; omega)
theorem h_X11_waysToTaste (a0 : Int32) (a1 : Int32) {s : Sg} (hR : Rg rC s) : OQ (f_X11_waysToTaste a0 a1 s) (fun _ s9 => JC 0 s s9 ∧ True) := by
  have hJ : JC 0 s s := j_refl hR
  unfold f_X11_waysToTaste
  exact h_X11_waysToTaste_b5 BIG _ _ _ _ _ hJ (by have f0 : (0 : Int32).toInt = 0 := rfl; omega) (by have g0 := i_rg a0; have g1 := i_rg a1; have g2 : (1 : Int32).toInt = 1 := rfl; have g3 : (0 : Int32).toInt = 0 := rfl; have g4 : BIG = 4294967296 := rfl; omega)
theorem h_X11_tellFraction_b45 {s0 : Sg} (v1 : Int64) (v3 : Int64) (v5 : Int64) (s : Sg) (hJ : JC 287342913912354160942190067590682971928513585409425408 s0 s) : OQ (f_X11_tellFraction_b45 v1 v3 v5 s) (fun _ s9 => JC 287342913912354160942190067590682971928513585409425408 s0 s9 ∧ True) := by
  unfold f_X11_tellFraction_b45
  refine oq_if (fun c1 => ?_) (fun c1 => ?_)
  · exact ⟨hJ, trivial⟩
  · refine oq_c (lg_nl c1) ?_
    refine oq_n (fun s2 es2 => ?_)
    have js2 : JC 287342913912354160942190067590682971928513585409425408 s0 s2 := by rw [es2]; exact (j_wl (j_wl hJ 176 rfl rfl) 177 rfl rfl)
    exact ⟨js2, trivial⟩
theorem h_X11_tellFraction_b9 {s0 : Sg} (n : Nat) : ∀ (v1 : Int64) (v3 : Int64) (v5 : Int64) (v7 : Int64) (v9 : Int32) (s : Sg), JC 287342913912354160942190067590682971928513585409425408 s0 s → 0 ≤ v9.toInt ∧ v9.toInt ≤ 1000 → 1000 - v9.toInt < (n : Int) → OQ (f_X11_tellFraction_b9 n v1 v3 v5 v7 v9 s) (fun _ s9 => JC 287342913912354160942190067590682971928513585409425408 s0 s9 ∧ True) := by
  induction n with
  | zero => intro v1 v3 v5 v7 v9 s hJ p_v9 hn; exact False.elim (by have g0 := hn; have g1 := p_v9; have g2 := i_rg v9; omega)
  | succ n ih =>
    intro v1 v3 v5 v7 v9 s hJ p_v9 hn
    unfold f_X11_tellFraction_b9
    refine oq_if (fun c1 => ?_) (fun c1 => ?_)
    · exact h_X11_tellFraction_b45 _ _ _ _ hJ
    · refine oq_if (fun c2 => ?_) (fun c2 => ?_)
      · exact h_X11_tellFraction_b45 _ _ _ _ hJ
      · refine oq_c (lg_ne c2) ?_
        exact ih _ _ _ _ _ _ hJ (by have f0 := i_add (v9) ((1 : Int32)); have f1 := p_v9; have f2 := i_rg v9; have f3 : (1 : Int32).toInt = 1 := rfl; have f4 := i_nle c1; have f5 : (1000 : Int32).toInt = 1000 := rfl; omega) (by have g0 := i_add (v9) ((1 : Int32)); have g1 := p_v9; have g2 := i_rg v9; have g3 : (1 : Int32).toInt = 1 := rfl; have g4 := i_nle c1; have g5 : (1000 : Int32).toInt = 1000 := rfl; have g6 := hn; omega)
theorem h_X11_tellFraction (a1 : Int64) (a2 : Int64) {s : Sg} (hR : Rg rC s) : OQ (f_X11_tellFraction a1 a2 s) (fun _ s9 => JC 287342913912354160942190067590682971928513585409425408 s s9 ∧ True) := by
  have hJ : JC 287342913912354160942190067590682971928513585409425408 s s := j_refl hR
  unfold f_X11_tellFraction
  exact h_X11_tellFraction_b9 BIG _ _ _ _ _ _ hJ (by have f0 : (0 : Int32).toInt = 0 := rfl; omega) (by have g0 : (0 : Int32).toInt = 0 := rfl; have g1 : BIG = 4294967296 := rfl; omega)
theorem h_X11_found (a1 : Int32) (a2 : Int32) {s : Sg} (hR : Rg rC s) : OQ (f_X11_found a1 a2 s) (fun r9 s9 => JC 335233399564413187765888412189130133916599182977662976 s s9 ∧ (0 ≤ r9.toInt ∧ r9.toInt ≤ 1) ∧ (r9 = 0 → True) ∧ (¬ r9 = 0 → 0 ≤ (a1).toInt ∧ (a1).toInt ≤ 7)) := by
  have hJ : JC 335233399564413187765888412189130133916599182977662976 s s := j_refl hR
  unfold f_X11_found
  refine oq_b (h_X11_within _ _ _ hJ.1 (by have f0 : (1 : Int32).toInt = 1 := rfl; omega) (by have f0 : (4 : Int32).toInt = 4 := rfl; omega)) (fun r1 s2 hs2 => ?_)
  have js2 : JC 335233399564413187765888412189130133916599182977662976 s s2 := j_call hJ hs2.1 rfl
  refine oq_b (h_X11_whyNoStep _ _ js2.1 (by have f0 := hs2.2.1; have f1 := i_rg r1; omega)) (fun r3 s4 hs4 => ?_)
  have js4 : JC 335233399564413187765888412189130133916599182977662976 s s4 := j_call js2 hs4.1 rfl
  refine oq_if (fun c1 => ?_) (fun c1 => ?_)
  · refine oq_b (h_X2_lying _ js4.1 (by have f0 := i_rg a1; have f1 := (hs4.2.2.1 c1).1; have f2 := (hs4.2.2.1 c1).2.1; have f3 : (0 : Int32).toInt = 0 := rfl; have f4 : (7 : Int32).toInt = 7 := rfl; omega)) (fun r5 s6 hs6 => ?_)
    have js6 : JC 335233399564413187765888412189130133916599182977662976 s s6 := j_call js4 hs6.1 rfl
    refine oq_if (fun c2 => ?_) (fun c2 => ?_)
    · refine oq_b (h_X11_refused _ js6.1 (by have f0 : (7 : Int32).toInt = 7 := rfl; omega)) (fun r7 s8 hs8 => ?_)
      have js8 : JC 335233399564413187765888412189130133916599182977662976 s s8 := j_call js6 hs8.1 rfl
      refine oq_c (b01_of (by have f0 := hs8.2.1; have f1 := i_rg r7; omega)) ?_
      exact ⟨js8, (by have f0 := hs8.2.1; have f1 := i_rg r7; omega), fun _ => trivial, fun w9 => False.elim (by have f0 := hs8.2.1; have f1 := i_rg r7; have f2 := i_ne w9; have f3 : (0 : Int32).toInt = 0 := rfl; omega)⟩
    · refine oq_if (fun c3 => ?_) (fun c3 => ?_)
      · refine oq_b (h_X11_waysToTaste _ _ js6.1) (fun r9 s10 hs10 => ?_)
        have js10 : JC 335233399564413187765888412189130133916599182977662976 s s10 := j_call js6 hs10.1 rfl
        refine oq_c (inr_of (by have f0 := i_rg a1; have f1 := (hs4.2.2.1 c1).1; have f2 := (hs4.2.2.1 c1).2.1; have f3 : (0 : Int32).toInt = 0 := rfl; have f4 : (7 : Int32).toInt = 7 := rfl; omega)) ?_
        refine oq_b (h_X11_waysToTaste _ _ js10.1) (fun r12 s13 hs13 => ?_)
        have js13 : JC 335233399564413187765888412189130133916599182977662976 s s13 := j_call js10 hs13.1 rfl
        refine oq_b (h_X11_tellFraction _ _ js13.1) (fun u4 s15 hs15 => ?_)
        have js15 : JC 335233399564413187765888412189130133916599182977662976 s s15 := j_call js13 hs15.1 rfl
        refine oq_b (h_X11_granted  js15.1) (fun r16 s17 hs17 => ?_)
        have js17 : JC 335233399564413187765888412189130133916599182977662976 s s17 := j_call js15 hs17.1 rfl
        refine oq_c (b01_of (by have f0 := hs17.2.1; have f1 := i_rg r16; omega)) ?_
        exact ⟨js17, (by have f0 := hs17.2.1; have f1 := i_rg r16; omega), fun w9 => False.elim (by have f0 := hs17.2.1; have f1 := i_rg r16; have f2 := i_eq w9; have f3 : (0 : Int32).toInt = 0 := rfl; omega), fun w9 => ⟨(by have f0 : (0 : Int32).toInt = 0 := rfl; have f1 := i_rg a1; have f2 := (hs4.2.2.1 c1).1; have f3 := (hs4.2.2.1 c1).2.1; have f4 : (7 : Int32).toInt = 7 := rfl; omega), (by have f0 := i_rg a1; have f1 : (7 : Int32).toInt = 7 := rfl; have f2 := (hs4.2.2.1 c1).1; have f3 := (hs4.2.2.1 c1).2.1; have f4 : (0 : Int32).toInt = 0 := rfl; omega)⟩⟩
      · refine oq_b (h_X11_refused _ js6.1 (by have f0 : (7 : Int32).toInt = 7 := rfl; omega)) (fun r18 s19 hs19 => ?_)
        have js19 : JC 335233399564413187765888412189130133916599182977662976 s s19 := j_call js6 hs19.1 rfl
        refine oq_c (b01_of (by have f0 := hs19.2.1; have f1 := i_rg r18; omega)) ?_
        exact ⟨js19, (by have f0 := hs19.2.1; have f1 := i_rg r18; omega), fun _ => trivial, fun w9 => False.elim (by have f0 := hs19.2.1; have f1 := i_rg r18; have f2 := i_ne w9; have f3 : (0 : Int32).toInt = 0 := rfl; omega)⟩
  · refine oq_b (h_X11_refused _ js4.1 (by have f0 := hs4.2.1; have f1 := i_rg r3; have f2 := i_ne c1; have f3 : (0 : Int32).toInt = 0 := rfl; omega)) (fun r20 s21 hs21 => ?_)
    have js21 : JC 335233399564413187765888412189130133916599182977662976 s s21 := j_call js4 hs21.1 rfl
    refine oq_c (b01_of (by have f0 := hs21.2.1; have f1 := i_rg r20; omega)) ?_
    exact ⟨js21, (by have f0 := hs21.2.1; have f1 := i_rg r20; omega), fun _ => trivial, fun w9 => False.elim (by have f0 := hs21.2.1; have f1 := i_rg r20; have f2 := i_ne w9; have f3 : (0 : Int32).toInt = 0 := rfl; omega)⟩
theorem h_X3_begin (a1 : Int32) {s : Sg} (hR : Rg rC s) (p_a1 : 0 ≤ a1.toInt ∧ a1.toInt ≤ 9999) : OQ (f_X3_begin a1 s) (fun _ s9 => JC 16 s s9 ∧ True) := by
  have hJ : JC 16 s s := j_refl hR
  unfold f_X3_begin
  refine oq_n (fun s1 es1 => ?_)
  have js1 : JC 16 s s1 := by rw [es1]; exact (j_wf (j_wf (j_wr 0 1 hJ rfl 4 rfl rfl (by have f0 : (1 : Int32).toInt = 1 := rfl; omega)) rfl 4 rfl rfl) rfl 4 rfl rfl)
  refine oq_n (fun s2 es2 => ?_)
  have js2 : JC 16 s s2 := by rw [es2]; exact (j_wf (j_wf (j_wf js1 rfl 4 rfl rfl) rfl 4 rfl rfl) rfl 4 rfl rfl)
  exact ⟨(j_wr 0 1 (j_wf js2 rfl 4 rfl rfl) rfl 4 rfl rfl (by have f0 : (0 : Int32).toInt = 0 := rfl; omega)), trivial⟩
theorem h_X3_behindEnd_27 (a2 : Int32) {s : Sg} (hR : Rg rC s) (p_a2 : 0 ≤ a2.toInt ∧ a2.toInt ≤ 59) : OQ (f_X3_behindEnd_27 a2 s) (fun r9 s9 => JC 262144 s s9 ∧ (1 ≤ r9.toInt ∧ r9.toInt ≤ 60) ∧ (r9 = 0 → True) ∧ (¬ r9 = 0 → True)) := by
  have hJ : JC 262144 s s := j_refl hR
  unfold f_X3_behindEnd_27
  refine oq_c (inr_of (by have f0 := p_a2; have f1 := i_rg a2; omega)) ?_
  refine oq_c (inr_of (by have f0 := j_rd hJ 50 a2.toNatClampNeg 0 59 rfl; omega)) ?_
  refine oq_if (fun c1 => ?_) (fun c1 => ?_)
  · refine oq_n (fun s3 es3 => ?_)
    have js3 : JC 262144 s s3 := by rw [es3]; exact (j_wf hJ rfl 18 rfl rfl)
    refine oq_if (fun c2 => ?_) (fun c2 => ?_)
    · exact ⟨js3, (by have f0 := i_add (a2) ((1 : Int32)); have f1 := p_a2; have f2 := i_rg a2; have f3 : (1 : Int32).toInt = 1 := rfl; omega), fun w9 => False.elim (by have f0 := i_add (a2) ((1 : Int32)); have f1 := p_a2; have f2 := i_rg a2; have f3 : (1 : Int32).toInt = 1 := rfl; have f4 := i_eq w9; have f5 : (0 : Int32).toInt = 0 := rfl; omega), fun _ => trivial⟩
    · exact ⟨js3, (by have f0 := i_add (s.1 50 a2.toNatClampNeg) ((1 : Int32)); have f1 := j_rd hJ 50 a2.toNatClampNeg 0 59 rfl; have f2 : (1 : Int32).toInt = 1 := rfl; omega), fun _ => trivial, fun _ => trivial⟩
  · exact ⟨hJ, (by have f0 := i_add (a2) ((1 : Int32)); have f1 := p_a2; have f2 := i_rg a2; have f3 : (1 : Int32).toInt = 1 := rfl; omega), fun w9 => False.elim (by have f0 := i_add (a2) ((1 : Int32)); have f1 := p_a2; have f2 := i_rg a2; have f3 : (1 : Int32).toInt = 1 := rfl; have f4 := i_eq w9; have f5 : (0 : Int32).toInt = 0 := rfl; omega), fun _ => trivial⟩
theorem h_X3_maybeRain_25_26 (a3 : Int32) {s : Sg} (hR : Rg rC s) : OQ (f_X3_maybeRain_25_26 a3 s) (fun _ s9 => JC 3298601992208 s s9 ∧ True) := by
  have hJ : JC 3298601992208 s s := j_refl hR
  unfold f_X3_maybeRain_25_26
  refine oq_n (fun s1 es1 => ?_)
  have js1 : JC 3298601992208 s s1 := by rw [es1]; exact (j_wf hJ rfl 4 rfl rfl)
  refine oq_if (fun c1 => ?_) (fun c1 => ?_)
  · exact ⟨js1, trivial⟩
  · refine oq_b (h_X2_letRain_25  js1.1) (fun r2 s3 hs3 => ?_)
    have js3 : JC 3298601992208 s s3 := j_call js1 hs3.1 rfl
    exact ⟨(j_wf js3 rfl 4 rfl rfl), trivial⟩
theorem h_X3_tryBuy_25_26 (a3 : Int32) (a4 : Int32) (a5 : Int32) {s : Sg} (hR : Rg rC s) (p_a3 : 0 ≤ a3.toInt ∧ a3.toInt ≤ 3) (p_a5 : 0 ≤ a5.toInt ∧ a5.toInt ≤ 7) : OQ (f_X3_tryBuy_25_26 a3 a4 a5 s) (fun _ s9 => JC 20890788036624 s s9 ∧ True) := by
  have hJ : JC 20890788036624 s s := j_refl hR
  unfold f_X3_tryBuy_25_26
  refine oq_b (h_X2_hasRoom _ _ hJ.1 (by have f0 := p_a5; have f1 := i_rg a5; omega)) (fun r1 s2 hs2 => ?_)
  have js2 : JC 20890788036624 s s2 := j_call hJ hs2.1 rfl
  refine oq_if (fun c1 => ?_) (fun c1 => ?_)
  · exact ⟨(j_wf js2 rfl 4 rfl rfl), trivial⟩
  · refine oq_c (inr_of (by have f0 := p_a3; have f1 := i_rg a3; omega)) ?_
    refine oq_if (fun c2 => ?_) (fun c2 => ?_)
    · exact ⟨(j_wf js2 rfl 4 rfl rfl), trivial⟩
    · refine oq_b (h_X2_addBought_25 _ _ _ js2.1 (by have f0 := p_a3; have f1 := i_rg a3; omega) (by have f0 := p_a5; have f1 := i_rg a5; omega)) (fun r4 s5 hs5 => ?_)
      have js5 : JC 20890788036624 s s5 := j_call js2 hs5.1 rfl
      exact ⟨js5, trivial⟩
theorem h_X3_tryStrew_26 (a2 : Int32) (a3 : Int32) {s : Sg} (hR : Rg rC s) (p_a2 : 0 ≤ a2.toInt ∧ a2.toInt ≤ 7) : OQ (f_X3_tryStrew_26 a2 a3 s) (fun _ s9 => JC 1099578736656 s s9 ∧ True) := by
  have hJ : JC 1099578736656 s s := j_refl hR
  unfold f_X3_tryStrew_26
  refine oq_b (h_X2_hasRoom _ _ hJ.1 (by have f0 := p_a2; have f1 := i_rg a2; omega)) (fun r1 s2 hs2 => ?_)
  have js2 : JC 1099578736656 s s2 := j_call hJ hs2.1 rfl
  refine oq_if (fun c1 => ?_) (fun c1 => ?_)
  · exact ⟨(j_wf js2 rfl 4 rfl rfl), trivial⟩
  · refine oq_b (h_X2_addSalt _ _ js2.1 (by have f0 := p_a2; have f1 := i_rg a2; omega)) (fun u2 s4 hs4 => ?_)
    have js4 : JC 1099578736656 s s4 := j_call js2 hs4.1 rfl
    exact ⟨js4, trivial⟩
theorem h_X3_tryNight_25_26  {s : Sg} (hR : Rg rC s) : OQ (f_X3_tryNight_25_26  s) (fun _ s9 => JC 16492741525520 s s9 ∧ True) := by
  have hJ : JC 16492741525520 s s := j_refl hR
  unfold f_X3_tryNight_25_26
  refine oq_if (fun c1 => ?_) (fun c1 => ?_)
  · refine oq_b (h_X2_passNight_25  hJ.1) (fun u2 s2 hs2 => ?_)
    have js2 : JC 16492741525520 s s2 := j_call hJ hs2.1 rfl
    refine oq_b (h_bitCount _ js2.1) (fun r3 s4 hs4 => ?_)
    have js4 : JC 16492741525520 s s4 := j_call js2 hs4.1 rfl
    refine oq_b (h_bitCount _ ((j_wf js4 rfl 4 rfl rfl) : JC 16492741525520 s (pI s4 4 6 ((s2.1 4 6) + r3))).1) (fun r5 s6 hs6 => ?_)
    have js6 : JC 16492741525520 s s6 := j_call ((j_wf js4 rfl 4 rfl rfl) : JC 16492741525520 s (pI s4 4 6 ((s2.1 4 6) + r3))) hs6.1 rfl
    refine oq_n (fun s7 es7 => ?_)
    have js7 : JC 16492741525520 s s7 := by rw [es7]; exact (j_wf js6 rfl 4 rfl rfl)
    exact ⟨js7, trivial⟩
  · exact ⟨(j_wf hJ rfl 4 rfl rfl), trivial⟩
theorem h_X3_act_25_26_27 (a4 : Int32) {s : Sg} (hR : Rg rC s) (hB : BuyW 24 s) (p_a4 : 0 ≤ a4.toInt ∧ a4.toInt ≤ 59) (x_1 : a4.toInt < (s.1 27 7).toInt) : OQ (f_X3_act_25_26_27 a4 s) (fun _ s9 => JC 34084927569936 s s9 ∧ True) := by
  have hJ : JC 34084927569936 s s := j_refl hR
  unfold f_X3_act_25_26_27
  refine oq_c (inr_of (by have f0 := p_a4; have f1 := i_rg a4; have f2 := x_1; have f3 := j_rd hJ 27 7 0 60 rfl; omega)) ?_
  refine oq_if (fun c1 => ?_) (fun c1 => ?_)
  · refine oq_b (h_X3_maybeRain_25_26 _ hJ.1) (fun u2 s3 hs3 => ?_)
    have js3 : JC 34084927569936 s s3 := j_call hJ hs3.1 rfl
    exact ⟨js3, trivial⟩
  · refine oq_if (fun c3 => ?_) (fun c3 => ?_)
    · exact ⟨hJ, trivial⟩
    · refine oq_if (fun c4 => ?_) (fun c4 => ?_)
      · exact ⟨hJ, trivial⟩
      · refine oq_if (fun c5 => ?_) (fun c5 => ?_)
        · refine oq_b (h_X3_tryBuy_25_26 _ _ _ hJ.1 (by have b0 : (s.1 46 a4.toNatClampNeg).toInt ≤ 3 := hB a4.toNatClampNeg (show (a4.toNatClampNeg : Int) < (s.1 27 7).toInt from by have f0 := cl_nat a4; have f1 := p_a4; have f2 := x_1; omega) (i_eq c5); have b1 := j_rd hJ 46 a4.toNatClampNeg 0 7 rfl; omega) (by have f0 := j_rd hJ 48 a4.toNatClampNeg 0 7 rfl; omega)) (fun u6 s5 hs5 => ?_)
          have js5 : JC 34084927569936 s s5 := j_call hJ hs5.1 rfl
          exact ⟨js5, trivial⟩
        · refine oq_if (fun c7 => ?_) (fun c7 => ?_)
          · refine oq_b (h_X3_tryStrew_26 _ _ hJ.1 (by have f0 := j_rd hJ 46 a4.toNatClampNeg 0 7 rfl; omega)) (fun u8 s7 hs7 => ?_)
            have js7 : JC 34084927569936 s s7 := j_call hJ hs7.1 rfl
            exact ⟨js7, trivial⟩
          · refine oq_if (fun c9 => ?_) (fun c9 => ?_)
            · refine oq_b (h_X2_clearStep _ hJ.1 (by have f0 := j_rd hJ 46 a4.toNatClampNeg 0 7 rfl; omega)) (fun r8 s9 hs9 => ?_)
              have js9 : JC 34084927569936 s s9 := j_call hJ hs9.1 rfl
              exact ⟨js9, trivial⟩
            · refine oq_if (fun c10 => ?_) (fun c10 => ?_)
              · refine oq_b (h_X2_letSnow_25 _ hJ.1) (fun u11 s11 hs11 => ?_)
                have js11 : JC 34084927569936 s s11 := j_call hJ hs11.1 rfl
                exact ⟨js11, trivial⟩
              · refine oq_if (fun c12 => ?_) (fun c12 => ?_)
                · refine oq_b (h_X3_tryNight_25_26  hJ.1) (fun u13 s13 hs13 => ?_)
                  have js13 : JC 34084927569936 s s13 := j_call hJ hs13.1 rfl
                  exact ⟨js13, trivial⟩
                · exact ⟨hJ, trivial⟩
theorem h_X3_holds_26_27_25 (a3 : Int32) {s : Sg} (hR : Rg rC s) (p_a3 : 0 ≤ a3.toInt ∧ a3.toInt ≤ 59) : OQ (f_X3_holds_26_27_25 a3 s) (fun r9 s9 => JC 0 s s9 ∧ (0 ≤ r9.toInt ∧ r9.toInt ≤ 1) ∧ (r9 = 0 → True) ∧ (¬ r9 = 0 → True)) := by
  have hJ : JC 0 s s := j_refl hR
  unfold f_X3_holds_26_27_25
  refine oq_c (inr_of (by have f0 := p_a3; have f1 := i_rg a3; omega)) ?_
  refine oq_if (fun c1 => ?_) (fun c1 => ?_)
  · refine oq_b (h_X2_lying _ hJ.1 (by have f0 := j_rd hJ 46 a3.toNatClampNeg 0 7 rfl; omega)) (fun r2 s3 hs3 => ?_)
    have js3 : JC 0 s s3 := j_call hJ hs3.1 rfl
    refine oq_if (fun c2 => ?_) (fun c2 => ?_)
    · exact ⟨js3, (by have f0 : (0 : Int32).toInt = 0 := rfl; omega), fun _ => trivial, fun w9 => absurd rfl w9⟩
    · exact ⟨js3, (by have f0 : (1 : Int32).toInt = 1 := rfl; omega), fun w9 => absurd w9 (by decide), fun _ => trivial⟩
  · refine oq_if (fun c3 => ?_) (fun c3 => ?_)
    · refine oq_b (h_X2_lying _ hJ.1 (by have f0 := j_rd hJ 46 a3.toNatClampNeg 0 7 rfl; omega)) (fun r4 s5 hs5 => ?_)
      have js5 : JC 0 s s5 := j_call hJ hs5.1 rfl
      refine oq_if (fun c4 => ?_) (fun c4 => ?_)
      · exact ⟨js5, (by have f0 : (0 : Int32).toInt = 0 := rfl; omega), fun _ => trivial, fun w9 => absurd rfl w9⟩
      · exact ⟨js5, (by have f0 : (1 : Int32).toInt = 1 := rfl; omega), fun w9 => absurd w9 (by decide), fun _ => trivial⟩
    · refine oq_if (fun c5 => ?_) (fun c5 => ?_)
      · refine oq_b (h_X11_has _ _ hJ.1 (by have f0 := j_rd hJ 46 a3.toNatClampNeg 0 7 rfl; omega)) (fun r6 s7 hs7 => ?_)
        have js7 : JC 0 s s7 := j_call hJ hs7.1 rfl
        refine oq_c (b01_of (by have f0 := hs7.2.1; have f1 := i_rg r6; omega)) ?_
        exact ⟨js7, (by have f0 := hs7.2.1; have f1 := i_rg r6; omega), fun _ => trivial, fun _ => trivial⟩
      · refine oq_if (fun c6 => ?_) (fun c6 => ?_)
        · refine oq_b (h_X9_inTruce_26_25  hJ.1) (fun r8 s9 hs9 => ?_)
          have js9 : JC 0 s s9 := j_call hJ hs9.1 rfl
          refine oq_b (h_X11_has _ _ js9.1 (by have f0 := j_rd hJ 46 a3.toNatClampNeg 0 7 rfl; omega)) (fun r10 s11 hs11 => ?_)
          have js11 : JC 0 s s11 := j_call js9 hs11.1 rfl
          refine oq_c (b01_of (by have f0 := hs11.2.1; have f1 := i_rg r10; omega)) ?_
          exact ⟨js11, (by have f0 := hs11.2.1; have f1 := i_rg r10; omega), fun _ => trivial, fun _ => trivial⟩
        · refine oq_b (h_X2_lying _ hJ.1 (by have f0 := j_rd hJ 46 a3.toNatClampNeg 0 7 rfl; omega)) (fun r12 s13 hs13 => ?_)
          have js13 : JC 0 s s13 := j_call hJ hs13.1 rfl
          refine oq_if (fun c7 => ?_) (fun c7 => ?_)
          · exact ⟨js13, (by have f0 : (1 : Int32).toInt = 1 := rfl; omega), fun w9 => absurd w9 (by decide), fun _ => trivial⟩
          · exact ⟨js13, (by have f0 : (0 : Int32).toInt = 0 := rfl; omega), fun _ => trivial, fun w9 => absurd rfl w9⟩
theorem h_X3_behindStep_25_26_27 (a4 : Int32) {s : Sg} (hR : Rg rC s) (p_a4 : 0 ≤ a4.toInt ∧ a4.toInt ≤ 59) : OQ (f_X3_behindStep_25_26_27 a4 s) (fun r9 s9 => JC 262144 s s9 ∧ (0 ≤ r9.toInt ∧ r9.toInt ≤ 60) ∧ (r9 = 0 → True) ∧ (¬ r9 = 0 → True)) := by
  have hJ : JC 262144 s s := j_refl hR
  unfold f_X3_behindStep_25_26_27
  refine oq_c (inr_of (by have f0 := p_a4; have f1 := i_rg a4; omega)) ?_
  refine oq_if (fun c1 => ?_) (fun c1 => ?_)
  · refine oq_b (h_X3_holds_26_27_25 _ hJ.1 (by have f0 := p_a4; have f1 := i_rg a4; omega)) (fun r2 s3 hs3 => ?_)
    have js3 : JC 262144 s s3 := j_call hJ hs3.1 rfl
    refine oq_if (fun c2 => ?_) (fun c2 => ?_)
    · exact ⟨js3, (by have f0 := i_add (s3.1 50 a4.toNatClampNeg) ((1 : Int32)); have f1 := j_rd js3 50 a4.toNatClampNeg 0 59 rfl; have f2 : (1 : Int32).toInt = 1 := rfl; omega), fun _ => trivial, fun _ => trivial⟩
    · exact ⟨js3, (by have f0 := i_add (a4) ((1 : Int32)); have f1 := p_a4; have f2 := i_rg a4; have f3 : (1 : Int32).toInt = 1 := rfl; omega), fun w9 => False.elim (by have f0 := i_add (a4) ((1 : Int32)); have f1 := p_a4; have f2 := i_rg a4; have f3 : (1 : Int32).toInt = 1 := rfl; have f4 := i_eq w9; have f5 : (0 : Int32).toInt = 0 := rfl; omega), fun _ => trivial⟩
  · refine oq_if (fun c3 => ?_) (fun c3 => ?_)
    · refine oq_n (fun s4 es4 => ?_)
      have js4 : JC 262144 s s4 := by rw [es4]; exact (j_wf hJ rfl 18 rfl rfl)
      exact ⟨js4, (by have f0 := i_add (a4) ((1 : Int32)); have f1 := p_a4; have f2 := i_rg a4; have f3 : (1 : Int32).toInt = 1 := rfl; omega), fun w9 => False.elim (by have f0 := i_add (a4) ((1 : Int32)); have f1 := p_a4; have f2 := i_rg a4; have f3 : (1 : Int32).toInt = 1 := rfl; have f4 := i_eq w9; have f5 : (0 : Int32).toInt = 0 := rfl; omega), fun _ => trivial⟩
    · refine oq_if (fun c4 => ?_) (fun c4 => ?_)
      · exact ⟨hJ, (by have f0 := j_rd hJ 27 7 0 60 rfl; omega), fun _ => trivial, fun _ => trivial⟩
      · exact ⟨hJ, (by have f0 := i_add (a4) ((1 : Int32)); have f1 := p_a4; have f2 := i_rg a4; have f3 : (1 : Int32).toInt = 1 := rfl; omega), fun w9 => False.elim (by have f0 := i_add (a4) ((1 : Int32)); have f1 := p_a4; have f2 := i_rg a4; have f3 : (1 : Int32).toInt = 1 := rfl; have f4 := i_eq w9; have f5 : (0 : Int32).toInt = 0 := rfl; omega), fun _ => trivial⟩
theorem h_X3_run_25_26_27_b12 {s0 : Sg} (n : Nat) : ∀ (v5 : Int32) (v6 : Int32) (s : Sg), JC 34084927832080 s0 s → BuyW 24 s0 → 0 ≤ v5.toInt ∧ v5.toInt ≤ 60 → 0 ≤ v6.toInt ∧ v6.toInt ≤ 2147483647 → 2147483647 - v6.toInt < (n : Int) → OQ (f_X3_run_25_26_27_b12 n v5 v6 s) (fun _ s9 => JC 34084927832080 s0 s9 ∧ True) := by
  induction n with
  | zero => intro v5 v6 s hJ hB p_v5 p_v6 hn; exact False.elim (by have g0 := hn; have g1 := p_v5; have g2 := p_v6; have g3 := i_rg v5; have g4 := i_rg v6; omega)
  | succ n ih =>
    intro v5 v6 s hJ hB p_v5 p_v6 hn
    unfold f_X3_run_25_26_27_b12
    refine oq_if (fun c1 => ?_) (fun c1 => ?_)
    · exact ⟨hJ, trivial⟩
    · refine oq_if (fun c2 => ?_) (fun c2 => ?_)
      · exact ⟨hJ, trivial⟩
      · refine oq_c (inr_of (by have f0 := p_v5; have f1 := i_rg v5; have f2 := i_nle c2; have f3 := j_rd hJ 27 7 0 60 rfl; omega)) ?_
        refine oq_if (fun c3 => ?_) (fun c3 => ?_)
        · refine oq_b (h_X3_behindEnd_27 _ hJ.1 (by have f0 := p_v5; have f1 := i_rg v5; have f2 := i_nle c2; have f3 := j_rd hJ 27 7 0 60 rfl; omega)) (fun r4 s5 hs5 => ?_)
          have js5 : JC 34084927832080 s0 s5 := j_call hJ hs5.1 rfl
          exact ih _ _ _ js5 hB (by have f0 := hs5.2.1; have f1 := i_rg r4; omega) (by have f0 := i_add (v6) ((1 : Int32)); have f1 := p_v6; have f2 := i_rg v6; have f3 : (1 : Int32).toInt = 1 := rfl; have f4 := i_nle c1; have f5 : (1000000 : Int32).toInt = 1000000 := rfl; omega) (by have g0 := i_add (v6) ((1 : Int32)); have g1 := hs5.2.1; have g2 := i_rg r4; have g3 := p_v6; have g4 := i_rg v6; have g5 : (1 : Int32).toInt = 1 := rfl; have g6 := i_nle c1; have g7 : (1000000 : Int32).toInt = 1000000 := rfl; have g8 := hn; omega)
        · refine oq_if (fun c4 => ?_) (fun c4 => ?_)
          · refine oq_b (h_X3_act_25_26_27 _ ((j_wf hJ rfl 4 rfl rfl) : JC 34084927832080 s0 (pI s 4 3 ((s.1 4 3) + 1))).1 (buy_j hB ((j_wf hJ rfl 4 rfl rfl) : JC 34084927832080 s0 (pI s 4 3 ((s.1 4 3) + 1))) rfl rfl rfl) (by have f0 := p_v5; have f1 := i_rg v5; have f2 := i_nle c2; have f3 := j_rd hJ 27 7 0 60 rfl; omega) (by have g0 := p_v5; have g1 := i_rg v5; have g2 := j_rd ((j_wf hJ rfl 4 rfl rfl) : JC 34084927832080 s0 (pI s 4 3 ((s.1 4 3) + 1))) 27 7 0 60 rfl; have g3 : ((pI s 4 3 ((s.1 4 3) + 1)).1 27 7).toInt = (s.1 27 7).toInt := u_nc rfl; have g4 := j_rd hJ 27 7 0 60 rfl; have g5 := i_nle c2; omega)) (fun u5 s7 hs7 => ?_)
            have js7 : JC 34084927832080 s0 s7 := j_call ((j_wf hJ rfl 4 rfl rfl) : JC 34084927832080 s0 (pI s 4 3 ((s.1 4 3) + 1))) hs7.1 rfl
            refine oq_b (h_X3_behindStep_25_26_27 _ js7.1 (by have f0 := p_v5; have f1 := i_rg v5; have f2 := i_nle c2; have f3 := j_rd hJ 27 7 0 60 rfl; omega)) (fun r8 s9 hs9 => ?_)
            have js9 : JC 34084927832080 s0 s9 := j_call js7 hs9.1 rfl
            exact ih _ _ _ js9 hB (by have f0 := hs9.2.1; have f1 := i_rg r8; omega) (by have f0 := i_add (v6) ((1 : Int32)); have f1 := p_v6; have f2 := i_rg v6; have f3 : (1 : Int32).toInt = 1 := rfl; have f4 := i_nle c1; have f5 : (1000000 : Int32).toInt = 1000000 := rfl; omega) (by have g0 := i_add (v6) ((1 : Int32)); have g1 := hs9.2.1; have g2 := i_rg r8; have g3 := p_v6; have g4 := i_rg v6; have g5 : (1 : Int32).toInt = 1 := rfl; have g6 := i_nle c1; have g7 : (1000000 : Int32).toInt = 1000000 := rfl; have g8 := hn; omega)
          · exact ⟨(j_wr 0 1 hJ rfl 4 rfl rfl (by have f0 : (1 : Int32).toInt = 1 := rfl; omega)), trivial⟩
theorem h_X3_run_25_26_27 (a4 : Int32) {s : Sg} (hR : Rg rC s) (hB : BuyW 24 s) (p_a4 : 0 ≤ a4.toInt ∧ a4.toInt ≤ 9999) : OQ (f_X3_run_25_26_27 a4 s) (fun _ s9 => JC 34084927832080 s s9 ∧ True) := by
  have hJ : JC 34084927832080 s s := j_refl hR
  unfold f_X3_run_25_26_27
  refine oq_b (h_X3_begin _ hJ.1 (by have f0 := p_a4; have f1 := i_rg a4; omega)) (fun u1 s2 hs2 => ?_)
  have js2 : JC 34084927832080 s s2 := j_call hJ hs2.1 rfl
  exact h_X3_run_25_26_27_b12 BIG _ _ _ js2 hB (by have f0 : (0 : Int32).toInt = 0 := rfl; omega) (by have f0 : (0 : Int32).toInt = 0 := rfl; omega) (by have g0 : (0 : Int32).toInt = 0 := rfl; have g1 : BIG = 4294967296 := rfl; omega)
theorem h_X11_live (a1 : Int32) {s : Sg} (hR : Rg rC s) (hB : BuyW 24 s) : OQ (f_X11_live a1 s) (fun r9 s9 => JC 47890485652059026823698344598447161988119682496069648 s s9 ∧ True ∧ (r9 = 0 → 0 ≤ (a1).toInt ∧ (a1).toInt ≤ 9999) ∧ (¬ r9 = 0 → True)) := by
  have hJ : JC 47890485652059026823698344598447161988119682496069648 s s := j_refl hR
  unfold f_X11_live
  refine oq_b (h_X11_within _ _ _ hJ.1 (by have f0 : (0 : Int32).toInt = 0 := rfl; omega) (by have f0 : (9999 : Int32).toInt = 9999 := rfl; omega)) (fun r1 s2 hs2 => ?_)
  have js2 : JC 47890485652059026823698344598447161988119682496069648 s s2 := j_call hJ hs2.1 rfl
  refine oq_if (fun c1 => ?_) (fun c1 => ?_)
  · refine oq_b (h_X11_refuse _ js2.1 (by have f0 : (1 : Int32).toInt = 1 := rfl; omega)) (fun r3 s4 hs4 => ?_)
    have js4 : JC 47890485652059026823698344598447161988119682496069648 s s4 := j_call js2 hs4.1 rfl
    exact ⟨js4, trivial, fun w9 => False.elim (by have f0 := hs4.2.1; have f1 := i_rg r3; have f2 := i_eq w9; have f3 : (0 : Int32).toInt = 0 := rfl; omega), fun _ => trivial⟩
  · refine oq_if (fun c2 => ?_) (fun c2 => ?_)
    · refine oq_b (h_X11_refuse _ js2.1 (by have f0 : (6 : Int32).toInt = 6 := rfl; have f1 := (hs2.2.2.2 c1).2.2.2; have f2 : (0 : Int32).toInt = 0 := rfl; have f3 : (9999 : Int32).toInt = 9999 := rfl; omega)) (fun r5 s6 hs6 => ?_)
      have js6 : JC 47890485652059026823698344598447161988119682496069648 s s6 := j_call js2 hs6.1 rfl
      exact ⟨js6, trivial, fun w9 => False.elim (by have f0 := hs6.2.1; have f1 := i_rg r5; have f2 := (hs2.2.2.2 c1).2.2.2; have f3 := i_eq w9; have f4 : (0 : Int32).toInt = 0 := rfl; have f5 : (9999 : Int32).toInt = 9999 := rfl; omega), fun _ => trivial⟩
    · refine oq_b (h_X3_run_25_26_27 _ js2.1 (buy_j hB js2 rfl rfl rfl) (by have f0 := i_rg a1; have f1 := (hs2.2.2.2 c1).1; have f2 := (hs2.2.2.2 c1).2.1; have f3 := (hs2.2.2.2 c1).2.2.1; have f4 := (hs2.2.2.2 c1).2.2.2; have f5 : (0 : Int32).toInt = 0 := rfl; have f6 : (9999 : Int32).toInt = 9999 := rfl; omega)) (fun u3 s8 hs8 => ?_)
      have js8 : JC 47890485652059026823698344598447161988119682496069648 s s8 := j_call js2 hs8.1 rfl
      refine oq_b (h_X11_answer _ js8.1) (fun r9 s10 hs10 => ?_)
      have js10 : JC 47890485652059026823698344598447161988119682496069648 s s10 := j_call js8 hs10.1 rfl
      exact ⟨js10, trivial, fun w9 => ⟨(by have f0 : (0 : Int32).toInt = 0 := rfl; have f1 := i_rg a1; have f2 := (hs2.2.2.2 c1).1; have f3 := (hs2.2.2.2 c1).2.1; have f4 := (hs2.2.2.2 c1).2.2.1; have f5 := (hs2.2.2.2 c1).2.2.2; have f6 : (9999 : Int32).toInt = 9999 := rfl; omega), (by have f0 := i_rg a1; have f1 : (9999 : Int32).toInt = 9999 := rfl; have f2 := (hs2.2.2.2 c1).1; have f3 := (hs2.2.2.2 c1).2.1; have f4 := (hs2.2.2.2 c1).2.2.1; have f5 := (hs2.2.2.2 c1).2.2.2; have f6 : (0 : Int32).toInt = 0 := rfl; omega)⟩, fun _ => trivial⟩
theorem h_X3_tally (a1 : Int32) {s : Sg} (hR : Rg rC s) (p_a1 : 0 ≤ a1.toInt ∧ a1.toInt ≤ 4) : OQ (f_X3_tally a1 s) (fun r9 s9 => JC 0 s s9 ∧ True ∧ (r9 = 0 → True) ∧ (¬ r9 = 0 → True)) := by
  have hJ : JC 0 s s := j_refl hR
  unfold f_X3_tally
  refine oq_if (fun c1 => ?_) (fun c1 => ?_)
  · exact ⟨hJ, trivial, fun _ => trivial, fun _ => trivial⟩
  · refine oq_if (fun c2 => ?_) (fun c2 => ?_)
    · exact ⟨hJ, trivial, fun _ => trivial, fun _ => trivial⟩
    · refine oq_if (fun c3 => ?_) (fun c3 => ?_)
      · exact ⟨hJ, trivial, fun _ => trivial, fun _ => trivial⟩
      · refine oq_if (fun c4 => ?_) (fun c4 => ?_)
        · exact ⟨hJ, trivial, fun _ => trivial, fun _ => trivial⟩
        · refine oq_if (fun c5 => ?_) (fun c5 => ?_)
          · exact ⟨hJ, trivial, fun _ => trivial, fun w9 => absurd rfl w9⟩
          · exact ⟨hJ, trivial, fun w9 => absurd w9 (by decide), fun _ => trivial⟩
theorem h_X11_lived (a1 : Int32) {s : Sg} (hR : Rg rC s) : OQ (f_X11_lived a1 s) (fun r9 s9 => JC 47890485652059026823698344598447161988085597568237568 s s9 ∧ True ∧ (r9 = 0 → 0 ≤ (a1).toInt ∧ (a1).toInt ≤ 4) ∧ (¬ r9 = 0 → True)) := by
  have hJ : JC 47890485652059026823698344598447161988085597568237568 s s := j_refl hR
  unfold f_X11_lived
  refine oq_b (h_X11_within _ _ _ hJ.1 (by have f0 : (0 : Int32).toInt = 0 := rfl; omega) (by have f0 : (4 : Int32).toInt = 4 := rfl; omega)) (fun r1 s2 hs2 => ?_)
  have js2 : JC 47890485652059026823698344598447161988085597568237568 s s2 := j_call hJ hs2.1 rfl
  refine oq_if (fun c1 => ?_) (fun c1 => ?_)
  · refine oq_b (h_X11_refuse _ js2.1 (by have f0 : (1 : Int32).toInt = 1 := rfl; omega)) (fun r3 s4 hs4 => ?_)
    have js4 : JC 47890485652059026823698344598447161988085597568237568 s s4 := j_call js2 hs4.1 rfl
    exact ⟨js4, trivial, fun w9 => False.elim (by have f0 := hs4.2.1; have f1 := i_rg r3; have f2 := i_eq w9; have f3 : (0 : Int32).toInt = 0 := rfl; omega), fun _ => trivial⟩
  · refine oq_if (fun c2 => ?_) (fun c2 => ?_)
    · refine oq_b (h_X11_refuse _ js2.1 (by have f0 : (6 : Int32).toInt = 6 := rfl; have f1 := (hs2.2.2.2 c1).2.2.2; have f2 : (0 : Int32).toInt = 0 := rfl; have f3 : (4 : Int32).toInt = 4 := rfl; omega)) (fun r5 s6 hs6 => ?_)
      have js6 : JC 47890485652059026823698344598447161988085597568237568 s s6 := j_call js2 hs6.1 rfl
      exact ⟨js6, trivial, fun w9 => False.elim (by have f0 := hs6.2.1; have f1 := i_rg r5; have f2 := (hs2.2.2.2 c1).2.2.2; have f3 := i_eq w9; have f4 : (0 : Int32).toInt = 0 := rfl; have f5 : (4 : Int32).toInt = 4 := rfl; omega), fun _ => trivial⟩
    · refine oq_b (h_X3_tally _ js2.1 (by have f0 := i_rg a1; have f1 := (hs2.2.2.2 c1).1; have f2 := (hs2.2.2.2 c1).2.1; have f3 := (hs2.2.2.2 c1).2.2.1; have f4 := (hs2.2.2.2 c1).2.2.2; have f5 : (0 : Int32).toInt = 0 := rfl; have f6 : (4 : Int32).toInt = 4 := rfl; omega)) (fun r7 s8 hs8 => ?_)
      have js8 : JC 47890485652059026823698344598447161988085597568237568 s s8 := j_call js2 hs8.1 rfl
      refine oq_b (h_X11_answer _ js8.1) (fun r9 s10 hs10 => ?_)
      have js10 : JC 47890485652059026823698344598447161988085597568237568 s s10 := j_call js8 hs10.1 rfl
      exact ⟨js10, trivial, fun w9 => ⟨(by have f0 : (0 : Int32).toInt = 0 := rfl; have f1 := i_rg a1; have f2 := (hs2.2.2.2 c1).1; have f3 := (hs2.2.2.2 c1).2.1; have f4 := (hs2.2.2.2 c1).2.2.1; have f5 := (hs2.2.2.2 c1).2.2.2; have f6 : (4 : Int32).toInt = 4 := rfl; omega), (by have f0 := i_rg a1; have f1 : (4 : Int32).toInt = 4 := rfl; have f2 := (hs2.2.2.2 c1).1; have f3 := (hs2.2.2.2 c1).2.1; have f4 := (hs2.2.2.2 c1).2.2.1; have f5 := (hs2.2.2.2 c1).2.2.2; have f6 : (0 : Int32).toInt = 0 := rfl; omega)⟩, fun _ => trivial⟩
theorem h_X3_begin_5 (a1 : Int32) {s : Sg} (hR : Rg rC s) (p_a1 : 0 ≤ a1.toInt ∧ a1.toInt ≤ 2147483647) : OQ (f_X3_begin_5 a1 s) (fun _ s9 => JC 32 s s9 ∧ True) := by
  have hJ : JC 32 s s := j_refl hR
  unfold f_X3_begin_5
  refine oq_n (fun s1 es1 => ?_)
  have js1 : JC 32 s s1 := by rw [es1]; exact (j_wf (j_wf (j_wr 0 1 hJ rfl 5 rfl rfl (by have f0 : (1 : Int32).toInt = 1 := rfl; omega)) rfl 5 rfl rfl) rfl 5 rfl rfl)
  refine oq_n (fun s2 es2 => ?_)
  have js2 : JC 32 s s2 := by rw [es2]; exact (j_wf (j_wf (j_wf js1 rfl 5 rfl rfl) rfl 5 rfl rfl) rfl 5 rfl rfl)
  exact ⟨(j_wr 0 1 (j_wf js2 rfl 5 rfl rfl) rfl 5 rfl rfl (by have f0 : (0 : Int32).toInt = 0 := rfl; omega)), trivial⟩
theorem h_X3_behindEnd_27_5 (a2 : Int32) {s : Sg} (hR : Rg rC s) (p_a2 : 0 ≤ a2.toInt ∧ a2.toInt ≤ 59) : OQ (f_X3_behindEnd_27_5 a2 s) (fun r9 s9 => JC 524288 s s9 ∧ (1 ≤ r9.toInt ∧ r9.toInt ≤ 60) ∧ (r9 = 0 → True) ∧ (¬ r9 = 0 → True)) := by
  have hJ : JC 524288 s s := j_refl hR
  unfold f_X3_behindEnd_27_5
  refine oq_c (inr_of (by have f0 := p_a2; have f1 := i_rg a2; omega)) ?_
  refine oq_c (inr_of (by have f0 := j_rd hJ 50 a2.toNatClampNeg 0 59 rfl; omega)) ?_
  refine oq_if (fun c1 => ?_) (fun c1 => ?_)
  · refine oq_n (fun s3 es3 => ?_)
    have js3 : JC 524288 s s3 := by rw [es3]; exact (j_wf hJ rfl 19 rfl rfl)
    refine oq_if (fun c2 => ?_) (fun c2 => ?_)
    · exact ⟨js3, (by have f0 := i_add (a2) ((1 : Int32)); have f1 := p_a2; have f2 := i_rg a2; have f3 : (1 : Int32).toInt = 1 := rfl; omega), fun w9 => False.elim (by have f0 := i_add (a2) ((1 : Int32)); have f1 := p_a2; have f2 := i_rg a2; have f3 : (1 : Int32).toInt = 1 := rfl; have f4 := i_eq w9; have f5 : (0 : Int32).toInt = 0 := rfl; omega), fun _ => trivial⟩
    · exact ⟨js3, (by have f0 := i_add (s.1 50 a2.toNatClampNeg) ((1 : Int32)); have f1 := j_rd hJ 50 a2.toNatClampNeg 0 59 rfl; have f2 : (1 : Int32).toInt = 1 := rfl; omega), fun _ => trivial, fun _ => trivial⟩
  · exact ⟨hJ, (by have f0 := i_add (a2) ((1 : Int32)); have f1 := p_a2; have f2 := i_rg a2; have f3 : (1 : Int32).toInt = 1 := rfl; omega), fun w9 => False.elim (by have f0 := i_add (a2) ((1 : Int32)); have f1 := p_a2; have f2 := i_rg a2; have f3 : (1 : Int32).toInt = 1 := rfl; have f4 := i_eq w9; have f5 : (0 : Int32).toInt = 0 := rfl; omega), fun _ => trivial⟩
theorem h_X2_letRain_25_53_b4 {s0 : Sg} (n : Nat) : ∀ (v2 : Int32) (v3 : Int32) (s : Sg), JC 442730864968283979776 s0 s → 0 ≤ v3.toInt ∧ v3.toInt ≤ 8 → 8 - v3.toInt < (n : Int) → OQ (f_X2_letRain_25_53_b4 n v2 v3 s) (fun r9 s9 => JC 442730864968283979776 s0 s9 ∧ True ∧ (r9 = 0 → True) ∧ (¬ r9 = 0 → True)) := by
  induction n with
  | zero => intro v2 v3 s hJ p_v3 hn; exact False.elim (by have g0 := hn; have g1 := p_v3; have g2 := i_rg v2; have g3 := i_rg v3; omega)
  | succ n ih =>
    intro v2 v3 s hJ p_v3 hn
    unfold f_X2_letRain_25_53_b4
    refine oq_if (fun c1 => ?_) (fun c1 => ?_)
    · exact ⟨(j_wr 0 1 (j_wf hJ rfl 53 rfl rfl) rfl 53 rfl rfl (by have f0 : (1 : Int32).toInt = 1 := rfl; omega)), trivial, fun _ => trivial, fun _ => trivial⟩
    · refine oq_c (inr_of (by have f0 := p_v3; have f1 := i_rg v3; have f2 := i_nle c1; have f3 := j_rd hJ 25 13 0 8 rfl; omega)) ?_
      refine oq_n (fun x2 ex2 => ?_)
      refine oq_n (fun x3 ex3 => ?_)
      refine oq_n (fun s4 es4 => ?_)
      have js4 : JC 442730864968283979776 s0 s4 := by rw [es4]; exact (j_wf (j_wf hJ rfl 68 rfl rfl) rfl 67 rfl rfl)
      exact ih _ _ _ js4 (by have f0 := i_add (v3) ((1 : Int32)); have f1 := p_v3; have f2 := i_rg v3; have f3 : (1 : Int32).toInt = 1 := rfl; have f4 := i_nle c1; have f5 := j_rd hJ 25 13 0 8 rfl; omega) (by have g0 := i_add (v3) ((1 : Int32)); have g1 := i_eq ex3; have g2 := i_add (s.1 68 v3.toNatClampNeg) (x2); have g3 := i_add (v2) ((s.1 68 v3.toNatClampNeg) + x2); have g4 := i_rg x3; have g5 := p_v3; have g6 := i_rg v3; have g7 : (1 : Int32).toInt = 1 := rfl; have g8 := i_rg v2; have g9 := i_rg (s.1 68 v3.toNatClampNeg); have g10 := i_eq ex2; have g11 := ite_lt (s.1 67 v3.toNatClampNeg) (s.1 25 18) (s.1 67 v3.toNatClampNeg) (s.1 25 18); have g12 := i_rg x2; have g13 := i_rg (s.1 67 v3.toNatClampNeg); have g14 := i_rg (s.1 25 18); have g15 := i_nle c1; have g16 := j_rd hJ 25 13 0 8 rfl; have g17 := hn; omega)
theorem h_X2_letRain_25_53  {s : Sg} (hR : Rg rC s) : OQ (f_X2_letRain_25_53  s) (fun r9 s9 => JC 442730864968283979776 s s9 ∧ True ∧ (r9 = 0 → True) ∧ (¬ r9 = 0 → True)) := by
  have hJ : JC 442730864968283979776 s s := j_refl hR
  unfold f_X2_letRain_25_53
  exact h_X2_letRain_25_53_b4 BIG _ _ _ hJ (by have f0 : (0 : Int32).toInt = 0 := rfl; omega) (by have g0 : (0 : Int32).toInt = 0 := rfl; have g1 : BIG = 4294967296 := rfl; omega)
theorem h_X3_maybeRain_25_53_5 (a3 : Int32) {s : Sg} (hR : Rg rC s) : OQ (f_X3_maybeRain_25_53_5 a3 s) (fun _ s9 => JC 442730864968283979808 s s9 ∧ True) := by
  have hJ : JC 442730864968283979808 s s := j_refl hR
  unfold f_X3_maybeRain_25_53_5
  refine oq_n (fun s1 es1 => ?_)
  have js1 : JC 442730864968283979808 s s1 := by rw [es1]; exact (j_wf hJ rfl 5 rfl rfl)
  refine oq_if (fun c1 => ?_) (fun c1 => ?_)
  · exact ⟨js1, trivial⟩
  · refine oq_b (h_X2_letRain_25_53  js1.1) (fun r2 s3 hs3 => ?_)
    have js3 : JC 442730864968283979808 s s3 := j_call js1 hs3.1 rfl
    exact ⟨(j_wf js3 rfl 5 rfl rfl), trivial⟩
theorem h_X2_hasRoom_53 (a1 : Int32) (a2 : Int32) {s : Sg} (hR : Rg rC s) (p_a1 : 0 ≤ a1.toInt ∧ a1.toInt ≤ 7) : OQ (f_X2_hasRoom_53 a1 a2 s) (fun r9 s9 => JC 0 s s9 ∧ (0 ≤ r9.toInt ∧ r9.toInt ≤ 1) ∧ (r9 = 0 → True) ∧ (¬ r9 = 0 → True)) := by
  have hJ : JC 0 s s := j_refl hR
  unfold f_X2_hasRoom_53
  refine oq_b (h_X2_lying_53 _ hJ.1 (by have f0 := p_a1; have f1 := i_rg a1; omega)) (fun r1 s2 hs2 => ?_)
  have js2 : JC 0 s s2 := j_call hJ hs2.1 rfl
  refine oq_if (fun c1 => ?_) (fun c1 => ?_)
  · exact ⟨js2, (by have f0 : (0 : Int32).toInt = 0 := rfl; omega), fun _ => trivial, fun w9 => absurd rfl w9⟩
  · exact ⟨js2, (by have f0 : (1 : Int32).toInt = 1 := rfl; omega), fun w9 => absurd w9 (by decide), fun _ => trivial⟩
theorem h_X2_addSalt_53 (a1 : Int32) (a2 : Int32) {s : Sg} (hR : Rg rC s) (p_a1 : 0 ≤ a1.toInt ∧ a1.toInt ≤ 7) : OQ (f_X2_addSalt_53 a1 a2 s) (fun _ s9 => JC 147582959788931153920 s s9 ∧ True) := by
  have hJ : JC 147582959788931153920 s s := j_refl hR
  unfold f_X2_addSalt_53
  refine oq_c (inr_of (by have f0 := p_a1; have f1 := i_rg a1; omega)) ?_
  refine oq_n (fun s2 es2 => ?_)
  have js2 : JC 147582959788931153920 s s2 := by rw [es2]; exact (j_wf hJ rfl 67 rfl rfl)
  exact ⟨(j_wf js2 rfl 53 rfl rfl), trivial⟩
theorem h_X2_addBought_25_53 (a2 : Int32) (a3 : Int32) (a4 : Int32) {s : Sg} (hR : Rg rC s) (p_a2 : 0 ≤ a2.toInt ∧ a2.toInt ≤ 3) (p_a4 : 0 ≤ a4.toInt ∧ a4.toInt ≤ 7) : OQ (f_X2_addBought_25_53 a2 a3 a4 s) (fun r9 s9 => JC 2803914106403106586624 s s9 ∧ True ∧ (r9 = 0 → True) ∧ (¬ r9 = 0 → True)) := by
  have hJ : JC 2803914106403106586624 s s := j_refl hR
  unfold f_X2_addBought_25_53
  refine oq_c (inr_of (by have f0 := p_a2; have f1 := i_rg a2; omega)) ?_
  refine oq_n (fun x2 ex2 => ?_)
  refine oq_n (fun s3 es3 => ?_)
  have js3 : JC 2803914106403106586624 s s3 := by rw [es3]; exact (j_wf hJ rfl 71 rfl rfl)
  refine oq_n (fun s4 es4 => ?_)
  have js4 : JC 2803914106403106586624 s s4 := by rw [es4]; exact (j_wf js3 rfl 53 rfl rfl)
  refine oq_b (h_X2_addSalt_53 _ _ js4.1 (by have f0 := p_a4; have f1 := i_rg a4; omega)) (fun u1 s6 hs6 => ?_)
  have js6 : JC 2803914106403106586624 s s6 := j_call js4 hs6.1 rfl
  refine oq_c (inr_of (by have f0 := p_a4; have f1 := i_rg a4; omega)) ?_
  refine oq_n (fun s8 es8 => ?_)
  have js8 : JC 2803914106403106586624 s s8 := by rw [es8]; exact (j_wf js6 rfl 68 rfl rfl)
  exact ⟨(j_wf js8 rfl 53 rfl rfl), trivial, fun _ => trivial, fun _ => trivial⟩
theorem h_X3_tryBuy_25_53_5 (a3 : Int32) (a4 : Int32) (a5 : Int32) {s : Sg} (hR : Rg rC s) (p_a3 : 0 ≤ a3.toInt ∧ a3.toInt ≤ 3) (p_a5 : 0 ≤ a5.toInt ∧ a5.toInt ≤ 7) : OQ (f_X3_tryBuy_25_53_5 a3 a4 a5 s) (fun _ s9 => JC 2803914106403106586656 s s9 ∧ True) := by
  have hJ : JC 2803914106403106586656 s s := j_refl hR
  unfold f_X3_tryBuy_25_53_5
  refine oq_b (h_X2_hasRoom_53 _ _ hJ.1 (by have f0 := p_a5; have f1 := i_rg a5; omega)) (fun r1 s2 hs2 => ?_)
  have js2 : JC 2803914106403106586656 s s2 := j_call hJ hs2.1 rfl
  refine oq_if (fun c1 => ?_) (fun c1 => ?_)
  · exact ⟨(j_wf js2 rfl 5 rfl rfl), trivial⟩
  · refine oq_c (inr_of (by have f0 := p_a3; have f1 := i_rg a3; omega)) ?_
    refine oq_if (fun c2 => ?_) (fun c2 => ?_)
    · exact ⟨(j_wf js2 rfl 5 rfl rfl), trivial⟩
    · refine oq_b (h_X2_addBought_25_53 _ _ _ js2.1 (by have f0 := p_a3; have f1 := i_rg a3; omega) (by have f0 := p_a5; have f1 := i_rg a5; omega)) (fun r4 s5 hs5 => ?_)
      have js5 : JC 2803914106403106586656 s s5 := j_call js2 hs5.1 rfl
      exact ⟨js5, trivial⟩
theorem h_X3_tryStrew_53_5 (a2 : Int32) (a3 : Int32) {s : Sg} (hR : Rg rC s) (p_a2 : 0 ≤ a2.toInt ∧ a2.toInt ≤ 7) : OQ (f_X3_tryStrew_53_5 a2 a3 s) (fun _ s9 => JC 147582959788931153952 s s9 ∧ True) := by
  have hJ : JC 147582959788931153952 s s := j_refl hR
  unfold f_X3_tryStrew_53_5
  refine oq_b (h_X2_hasRoom_53 _ _ hJ.1 (by have f0 := p_a2; have f1 := i_rg a2; omega)) (fun r1 s2 hs2 => ?_)
  have js2 : JC 147582959788931153952 s s2 := j_call hJ hs2.1 rfl
  refine oq_if (fun c1 => ?_) (fun c1 => ?_)
  · exact ⟨(j_wf js2 rfl 5 rfl rfl), trivial⟩
  · refine oq_b (h_X2_addSalt_53 _ _ js2.1 (by have f0 := p_a2; have f1 := i_rg a2; omega)) (fun u2 s4 hs4 => ?_)
    have js4 : JC 147582959788931153952 s s4 := j_call js2 hs4.1 rfl
    exact ⟨js4, trivial⟩
theorem h_X2_clearStep_53 (a1 : Int32) {s : Sg} (hR : Rg rC s) (p_a1 : 0 ≤ a1.toInt ∧ a1.toInt ≤ 7) : OQ (f_X2_clearStep_53 a1 s) (fun r9 s9 => JC 442730864968283979776 s s9 ∧ True ∧ (r9 = 0 → True) ∧ (¬ r9 = 0 → True)) := by
  have hJ : JC 442730864968283979776 s s := j_refl hR
  unfold f_X2_clearStep_53
  refine oq_b (h_X2_lying_53 _ hJ.1 (by have f0 := p_a1; have f1 := i_rg a1; omega)) (fun r1 s2 hs2 => ?_)
  have js2 : JC 442730864968283979776 s s2 := j_call hJ hs2.1 rfl
  refine oq_c (inr_of (by have f0 := p_a1; have f1 := i_rg a1; omega)) ?_
  refine oq_n (fun s4 es4 => ?_)
  have js4 : JC 442730864968283979776 s s4 := by rw [es4]; exact (j_wf (j_wf js2 rfl 67 rfl rfl) rfl 68 rfl rfl)
  refine oq_n (fun s5 es5 => ?_)
  have js5 : JC 442730864968283979776 s s5 := by rw [es5]; exact (j_wf js4 rfl 53 rfl rfl)
  exact ⟨js5, trivial, fun _ => trivial, fun _ => trivial⟩
theorem h_X2_letSnow_25_53_b2 {s0 : Sg} (n : Nat) : ∀ (v2 : Int32) (v3 : Int32) (s : Sg), JC 590295810358705651712 s0 s → 0 ≤ v3.toInt ∧ v3.toInt ≤ 8 → 8 - v3.toInt < (n : Int) → OQ (f_X2_letSnow_25_53_b2 n v2 v3 s) (fun _ s9 => JC 590295810358705651712 s0 s9 ∧ True) := by
  induction n with
  | zero => intro v2 v3 s hJ p_v3 hn; exact False.elim (by have g0 := hn; have g1 := p_v3; have g2 := i_rg v2; have g3 := i_rg v3; omega)
  | succ n ih =>
    intro v2 v3 s hJ p_v3 hn
    unfold f_X2_letSnow_25_53_b2
    refine oq_if (fun c1 => ?_) (fun c1 => ?_)
    · exact ⟨hJ, trivial⟩
    · refine oq_b (h_X4_isGone _ hJ.1 (by have f0 := p_v3; have f1 := i_rg v3; have f2 := i_nle c1; have f3 := j_rd hJ 25 13 0 8 rfl; omega)) (fun r1 s2 hs2 => ?_)
      have js2 : JC 590295810358705651712 s0 s2 := j_call hJ hs2.1 rfl
      refine oq_if (fun c2 => ?_) (fun c2 => ?_)
      · refine oq_c (inr_of (by have f0 := p_v3; have f1 := i_rg v3; have f2 := i_nle c1; have f3 := j_rd hJ 25 13 0 8 rfl; omega)) ?_
        refine oq_n (fun s4 es4 => ?_)
        have js4 : JC 590295810358705651712 s0 s4 := by rw [es4]; exact (j_wf js2 rfl 69 rfl rfl)
        exact ih _ _ _ js4 (by have f0 := i_add (v3) ((1 : Int32)); have f1 := p_v3; have f2 := i_rg v3; have f3 : (1 : Int32).toInt = 1 := rfl; have f4 := i_nle c1; have f5 := j_rd hJ 25 13 0 8 rfl; omega) (by have g0 := i_add (v3) ((1 : Int32)); have g1 := i_rg v2; have g2 := p_v3; have g3 := i_rg v3; have g4 : (1 : Int32).toInt = 1 := rfl; have g5 := i_nle c1; have g6 := j_rd hJ 25 13 0 8 rfl; have g7 := hn; omega)
      · exact ih _ _ _ js2 (by have f0 := i_add (v3) ((1 : Int32)); have f1 := p_v3; have f2 := i_rg v3; have f3 : (1 : Int32).toInt = 1 := rfl; have f4 := i_nle c1; have f5 := j_rd hJ 25 13 0 8 rfl; omega) (by have g0 := i_add (v3) ((1 : Int32)); have g1 := i_rg v2; have g2 := p_v3; have g3 := i_rg v3; have g4 : (1 : Int32).toInt = 1 := rfl; have g5 := i_nle c1; have g6 := j_rd hJ 25 13 0 8 rfl; have g7 := hn; omega)
theorem h_X2_letSnow_25_53 (a2 : Int32) {s : Sg} (hR : Rg rC s) : OQ (f_X2_letSnow_25_53 a2 s) (fun _ s9 => JC 590295810358705651712 s s9 ∧ True) := by
  have hJ : JC 590295810358705651712 s s := j_refl hR
  unfold f_X2_letSnow_25_53
  exact h_X2_letSnow_25_53_b2 BIG _ _ _ hJ (by have f0 : (0 : Int32).toInt = 0 := rfl; omega) (by have g0 := i_rg a2; have g1 : (0 : Int32).toInt = 0 := rfl; have g2 : BIG = 4294967296 := rfl; omega)
theorem h_X3_tryNight_25_53_5  {s : Sg} (hR : Rg rC s) : OQ (f_X3_tryNight_25_53_5  s) (fun _ s9 => JC 2213618296044400934944 s s9 ∧ True) := by
  have hJ : JC 2213618296044400934944 s s := j_refl hR
  unfold f_X3_tryNight_25_53_5
  refine oq_if (fun c1 => ?_) (fun c1 => ?_)
  · refine oq_b (h_X2_passNight_25_53  hJ.1) (fun u2 s2 hs2 => ?_)
    have js2 : JC 2213618296044400934944 s s2 := j_call hJ hs2.1 rfl
    refine oq_b (h_bitCount _ js2.1) (fun r3 s4 hs4 => ?_)
    have js4 : JC 2213618296044400934944 s s4 := j_call js2 hs4.1 rfl
    refine oq_b (h_bitCount _ ((j_wf js4 rfl 5 rfl rfl) : JC 2213618296044400934944 s (pI s4 5 6 ((s2.1 5 6) + r3))).1) (fun r5 s6 hs6 => ?_)
    have js6 : JC 2213618296044400934944 s s6 := j_call ((j_wf js4 rfl 5 rfl rfl) : JC 2213618296044400934944 s (pI s4 5 6 ((s2.1 5 6) + r3))) hs6.1 rfl
    refine oq_n (fun s7 es7 => ?_)
    have js7 : JC 2213618296044400934944 s s7 := by rw [es7]; exact (j_wf js6 rfl 5 rfl rfl)
    exact ⟨js7, trivial⟩
  · exact ⟨(j_wf hJ rfl 5 rfl rfl), trivial⟩
theorem h_X3_act_25_53_27_5 (a4 : Int32) {s : Sg} (hR : Rg rC s) (hB : BuyW 24 s) (p_a4 : 0 ≤ a4.toInt ∧ a4.toInt ≤ 59) (x_1 : a4.toInt < (s.1 27 7).toInt) : OQ (f_X3_act_25_53_27_5 a4 s) (fun _ s9 => JC 4574801537479223541792 s s9 ∧ True) := by
  have hJ : JC 4574801537479223541792 s s := j_refl hR
  unfold f_X3_act_25_53_27_5
  refine oq_c (inr_of (by have f0 := p_a4; have f1 := i_rg a4; have f2 := x_1; have f3 := j_rd hJ 27 7 0 60 rfl; omega)) ?_
  refine oq_if (fun c1 => ?_) (fun c1 => ?_)
  · refine oq_b (h_X3_maybeRain_25_53_5 _ hJ.1) (fun u2 s3 hs3 => ?_)
    have js3 : JC 4574801537479223541792 s s3 := j_call hJ hs3.1 rfl
    exact ⟨js3, trivial⟩
  · refine oq_if (fun c3 => ?_) (fun c3 => ?_)
    · exact ⟨hJ, trivial⟩
    · refine oq_if (fun c4 => ?_) (fun c4 => ?_)
      · exact ⟨hJ, trivial⟩
      · refine oq_if (fun c5 => ?_) (fun c5 => ?_)
        · refine oq_b (h_X3_tryBuy_25_53_5 _ _ _ hJ.1 (by have b0 : (s.1 46 a4.toNatClampNeg).toInt ≤ 3 := hB a4.toNatClampNeg (show (a4.toNatClampNeg : Int) < (s.1 27 7).toInt from by have f0 := cl_nat a4; have f1 := p_a4; have f2 := x_1; omega) (i_eq c5); have b1 := j_rd hJ 46 a4.toNatClampNeg 0 7 rfl; omega) (by have f0 := j_rd hJ 48 a4.toNatClampNeg 0 7 rfl; omega)) (fun u6 s5 hs5 => ?_)
          have js5 : JC 4574801537479223541792 s s5 := j_call hJ hs5.1 rfl
          exact ⟨js5, trivial⟩
        · refine oq_if (fun c7 => ?_) (fun c7 => ?_)
          · refine oq_b (h_X3_tryStrew_53_5 _ _ hJ.1 (by have f0 := j_rd hJ 46 a4.toNatClampNeg 0 7 rfl; omega)) (fun u8 s7 hs7 => ?_)
            have js7 : JC 4574801537479223541792 s s7 := j_call hJ hs7.1 rfl
            exact ⟨js7, trivial⟩
          · refine oq_if (fun c9 => ?_) (fun c9 => ?_)
            · refine oq_b (h_X2_clearStep_53 _ hJ.1 (by have f0 := j_rd hJ 46 a4.toNatClampNeg 0 7 rfl; omega)) (fun r8 s9 hs9 => ?_)
              have js9 : JC 4574801537479223541792 s s9 := j_call hJ hs9.1 rfl
              exact ⟨js9, trivial⟩
            · refine oq_if (fun c10 => ?_) (fun c10 => ?_)
              · refine oq_b (h_X2_letSnow_25_53 _ hJ.1) (fun u11 s11 hs11 => ?_)
                have js11 : JC 4574801537479223541792 s s11 := j_call hJ hs11.1 rfl
                exact ⟨js11, trivial⟩
              · refine oq_if (fun c12 => ?_) (fun c12 => ?_)
                · refine oq_b (h_X3_tryNight_25_53_5  hJ.1) (fun u13 s13 hs13 => ?_)
                  have js13 : JC 4574801537479223541792 s s13 := j_call hJ hs13.1 rfl
                  exact ⟨js13, trivial⟩
                · exact ⟨hJ, trivial⟩
theorem h_X9_inTruce_53_25_b7 {s0 : Sg} (n : Nat) : ∀ (v2 : Int32) (v3 : Int32) (s : Sg), JC 0 s0 s → 0 ≤ v3.toInt ∧ v3.toInt ≤ 8 → 8 - v3.toInt < (n : Int) → OQ (f_X9_inTruce_53_25_b7 n v2 v3 s) (fun r9 s9 => JC 0 s0 s9 ∧ True ∧ (r9 = 0 → True) ∧ (¬ r9 = 0 → True)) := by
  induction n with
  | zero => intro v2 v3 s hJ p_v3 hn; exact False.elim (by have g0 := hn; have g1 := p_v3; have g2 := i_rg v2; have g3 := i_rg v3; omega)
  | succ n ih =>
    intro v2 v3 s hJ p_v3 hn
    unfold f_X9_inTruce_53_25_b7
    refine oq_if (fun c1 => ?_) (fun c1 => ?_)
    · exact ⟨hJ, trivial, fun _ => trivial, fun _ => trivial⟩
    · refine oq_c (inr_of (by have f0 := p_v3; have f1 := i_rg v3; have f2 := i_nle c1; have f3 := j_rd hJ 25 13 0 8 rfl; omega)) ?_
      refine oq_b (h_X2_inSight_53 _ hJ.1 (by have f0 := p_v3; have f1 := i_rg v3; have f2 := i_nle c1; have f3 := j_rd hJ 25 13 0 8 rfl; omega)) (fun r4 s5 hs5 => ?_)
      have js5 : JC 0 s0 s5 := j_call hJ hs5.1 rfl
      refine oq_b (h_X9_calmAt_25 _ _ js5.1 (by have f0 := p_v3; have f1 := i_rg v3; have f2 := i_nle c1; have f3 := j_rd hJ 25 13 0 8 rfl; omega)) (fun r6 s7 hs7 => ?_)
      have js7 : JC 0 s0 s7 := j_call js5 hs7.1 rfl
      refine oq_n (fun x8 ex8 => ?_)
      exact ih _ _ _ js7 (by have f0 := i_add (v3) ((1 : Int32)); have f1 := p_v3; have f2 := i_rg v3; have f3 : (1 : Int32).toInt = 1 := rfl; have f4 := i_nle c1; have f5 := j_rd hJ 25 13 0 8 rfl; omega) (by have g0 := i_add (v3) ((1 : Int32)); have g1 := i_eq ex8; have g2 := i_rg x8; have g3 := p_v3; have g4 := i_rg v3; have g5 : (1 : Int32).toInt = 1 := rfl; have g6 := i_rg v2; have g7 := i_rg (s.1 34 v3.toNatClampNeg); have g8 : ((-1) : Int32).toInt = (-1) := rfl; have g9 := i_rg r6; have g10 := i_nle c1; have g11 := j_rd hJ 25 13 0 8 rfl; have g12 := hn; omega)
theorem h_X9_inTruce_53_25  {s : Sg} (hR : Rg rC s) : OQ (f_X9_inTruce_53_25  s) (fun r9 s9 => JC 0 s s9 ∧ True ∧ (r9 = 0 → True) ∧ (¬ r9 = 0 → True)) := by
  have hJ : JC 0 s s := j_refl hR
  unfold f_X9_inTruce_53_25
  refine oq_b (h_X4_allQuarrels  hJ.1) (fun r1 s2 hs2 => ?_)
  have js2 : JC 0 s s2 := j_call hJ hs2.1 rfl
  exact h_X9_inTruce_53_25_b7 BIG _ _ _ js2 (by have f0 : (0 : Int32).toInt = 0 := rfl; omega) (by have g0 := hs2.2.1; have g1 := i_rg r1; have g2 : (0 : Int32).toInt = 0 := rfl; have g3 : BIG = 4294967296 := rfl; omega)
theorem h_X3_holds_53_27_25 (a3 : Int32) {s : Sg} (hR : Rg rC s) (p_a3 : 0 ≤ a3.toInt ∧ a3.toInt ≤ 59) : OQ (f_X3_holds_53_27_25 a3 s) (fun r9 s9 => JC 0 s s9 ∧ (0 ≤ r9.toInt ∧ r9.toInt ≤ 1) ∧ (r9 = 0 → True) ∧ (¬ r9 = 0 → True)) := by
  have hJ : JC 0 s s := j_refl hR
  unfold f_X3_holds_53_27_25
  refine oq_c (inr_of (by have f0 := p_a3; have f1 := i_rg a3; omega)) ?_
  refine oq_if (fun c1 => ?_) (fun c1 => ?_)
  · refine oq_b (h_X2_lying_53 _ hJ.1 (by have f0 := j_rd hJ 46 a3.toNatClampNeg 0 7 rfl; omega)) (fun r2 s3 hs3 => ?_)
    have js3 : JC 0 s s3 := j_call hJ hs3.1 rfl
    refine oq_if (fun c2 => ?_) (fun c2 => ?_)
    · exact ⟨js3, (by have f0 : (0 : Int32).toInt = 0 := rfl; omega), fun _ => trivial, fun w9 => absurd rfl w9⟩
    · exact ⟨js3, (by have f0 : (1 : Int32).toInt = 1 := rfl; omega), fun w9 => absurd w9 (by decide), fun _ => trivial⟩
  · refine oq_if (fun c3 => ?_) (fun c3 => ?_)
    · refine oq_b (h_X2_lying_53 _ hJ.1 (by have f0 := j_rd hJ 46 a3.toNatClampNeg 0 7 rfl; omega)) (fun r4 s5 hs5 => ?_)
      have js5 : JC 0 s s5 := j_call hJ hs5.1 rfl
      refine oq_if (fun c4 => ?_) (fun c4 => ?_)
      · exact ⟨js5, (by have f0 : (0 : Int32).toInt = 0 := rfl; omega), fun _ => trivial, fun w9 => absurd rfl w9⟩
      · exact ⟨js5, (by have f0 : (1 : Int32).toInt = 1 := rfl; omega), fun w9 => absurd w9 (by decide), fun _ => trivial⟩
    · refine oq_if (fun c5 => ?_) (fun c5 => ?_)
      · refine oq_b (h_X11_has _ _ hJ.1 (by have f0 := j_rd hJ 46 a3.toNatClampNeg 0 7 rfl; omega)) (fun r6 s7 hs7 => ?_)
        have js7 : JC 0 s s7 := j_call hJ hs7.1 rfl
        refine oq_c (b01_of (by have f0 := hs7.2.1; have f1 := i_rg r6; omega)) ?_
        exact ⟨js7, (by have f0 := hs7.2.1; have f1 := i_rg r6; omega), fun _ => trivial, fun _ => trivial⟩
      · refine oq_if (fun c6 => ?_) (fun c6 => ?_)
        · refine oq_b (h_X9_inTruce_53_25  hJ.1) (fun r8 s9 hs9 => ?_)
          have js9 : JC 0 s s9 := j_call hJ hs9.1 rfl
          refine oq_b (h_X11_has _ _ js9.1 (by have f0 := j_rd hJ 46 a3.toNatClampNeg 0 7 rfl; omega)) (fun r10 s11 hs11 => ?_)
          have js11 : JC 0 s s11 := j_call js9 hs11.1 rfl
          refine oq_c (b01_of (by have f0 := hs11.2.1; have f1 := i_rg r10; omega)) ?_
          exact ⟨js11, (by have f0 := hs11.2.1; have f1 := i_rg r10; omega), fun _ => trivial, fun _ => trivial⟩
        · refine oq_b (h_X2_lying_53 _ hJ.1 (by have f0 := j_rd hJ 46 a3.toNatClampNeg 0 7 rfl; omega)) (fun r12 s13 hs13 => ?_)
          have js13 : JC 0 s s13 := j_call hJ hs13.1 rfl
          refine oq_if (fun c7 => ?_) (fun c7 => ?_)
          · exact ⟨js13, (by have f0 : (1 : Int32).toInt = 1 := rfl; omega), fun w9 => absurd w9 (by decide), fun _ => trivial⟩
          · exact ⟨js13, (by have f0 : (0 : Int32).toInt = 0 := rfl; omega), fun _ => trivial, fun w9 => absurd rfl w9⟩
theorem h_X3_behindStep_25_53_27_5 (a4 : Int32) {s : Sg} (hR : Rg rC s) (p_a4 : 0 ≤ a4.toInt ∧ a4.toInt ≤ 59) : OQ (f_X3_behindStep_25_53_27_5 a4 s) (fun r9 s9 => JC 524288 s s9 ∧ (0 ≤ r9.toInt ∧ r9.toInt ≤ 60) ∧ (r9 = 0 → True) ∧ (¬ r9 = 0 → True)) := by
  have hJ : JC 524288 s s := j_refl hR
  unfold f_X3_behindStep_25_53_27_5
  refine oq_c (inr_of (by have f0 := p_a4; have f1 := i_rg a4; omega)) ?_
  refine oq_if (fun c1 => ?_) (fun c1 => ?_)
  · refine oq_b (h_X3_holds_53_27_25 _ hJ.1 (by have f0 := p_a4; have f1 := i_rg a4; omega)) (fun r2 s3 hs3 => ?_)
    have js3 : JC 524288 s s3 := j_call hJ hs3.1 rfl
    refine oq_if (fun c2 => ?_) (fun c2 => ?_)
    · exact ⟨js3, (by have f0 := i_add (s3.1 50 a4.toNatClampNeg) ((1 : Int32)); have f1 := j_rd js3 50 a4.toNatClampNeg 0 59 rfl; have f2 : (1 : Int32).toInt = 1 := rfl; omega), fun _ => trivial, fun _ => trivial⟩
    · exact ⟨js3, (by have f0 := i_add (a4) ((1 : Int32)); have f1 := p_a4; have f2 := i_rg a4; have f3 : (1 : Int32).toInt = 1 := rfl; omega), fun w9 => False.elim (by have f0 := i_add (a4) ((1 : Int32)); have f1 := p_a4; have f2 := i_rg a4; have f3 : (1 : Int32).toInt = 1 := rfl; have f4 := i_eq w9; have f5 : (0 : Int32).toInt = 0 := rfl; omega), fun _ => trivial⟩
  · refine oq_if (fun c3 => ?_) (fun c3 => ?_)
    · refine oq_n (fun s4 es4 => ?_)
      have js4 : JC 524288 s s4 := by rw [es4]; exact (j_wf hJ rfl 19 rfl rfl)
      exact ⟨js4, (by have f0 := i_add (a4) ((1 : Int32)); have f1 := p_a4; have f2 := i_rg a4; have f3 : (1 : Int32).toInt = 1 := rfl; omega), fun w9 => False.elim (by have f0 := i_add (a4) ((1 : Int32)); have f1 := p_a4; have f2 := i_rg a4; have f3 : (1 : Int32).toInt = 1 := rfl; have f4 := i_eq w9; have f5 : (0 : Int32).toInt = 0 := rfl; omega), fun _ => trivial⟩
    · refine oq_if (fun c4 => ?_) (fun c4 => ?_)
      · exact ⟨hJ, (by have f0 := j_rd hJ 27 7 0 60 rfl; omega), fun _ => trivial, fun _ => trivial⟩
      · exact ⟨hJ, (by have f0 := i_add (a4) ((1 : Int32)); have f1 := p_a4; have f2 := i_rg a4; have f3 : (1 : Int32).toInt = 1 := rfl; omega), fun w9 => False.elim (by have f0 := i_add (a4) ((1 : Int32)); have f1 := p_a4; have f2 := i_rg a4; have f3 : (1 : Int32).toInt = 1 := rfl; have f4 := i_eq w9; have f5 : (0 : Int32).toInt = 0 := rfl; omega), fun _ => trivial⟩
theorem h_X3_run_25_53_27_5_b12 {s0 : Sg} (n : Nat) : ∀ (v5 : Int32) (v6 : Int32) (s : Sg), JC 4574801537479224066080 s0 s → BuyW 24 s0 → 0 ≤ v5.toInt ∧ v5.toInt ≤ 60 → 0 ≤ v6.toInt ∧ v6.toInt ≤ 2147483647 → 2147483647 - v6.toInt < (n : Int) → OQ (f_X3_run_25_53_27_5_b12 n v5 v6 s) (fun _ s9 => JC 4574801537479224066080 s0 s9 ∧ True) := by
  induction n with
  | zero => intro v5 v6 s hJ hB p_v5 p_v6 hn; exact False.elim (by have g0 := hn; have g1 := p_v5; have g2 := p_v6; have g3 := i_rg v5; have g4 := i_rg v6; omega)
  | succ n ih =>
    intro v5 v6 s hJ hB p_v5 p_v6 hn
    unfold f_X3_run_25_53_27_5_b12
    refine oq_if (fun c1 => ?_) (fun c1 => ?_)
    · exact ⟨hJ, trivial⟩
    · refine oq_if (fun c2 => ?_) (fun c2 => ?_)
      · exact ⟨hJ, trivial⟩
      · refine oq_c (inr_of (by have f0 := p_v5; have f1 := i_rg v5; have f2 := i_nle c2; have f3 := j_rd hJ 27 7 0 60 rfl; omega)) ?_
        refine oq_if (fun c3 => ?_) (fun c3 => ?_)
        · refine oq_b (h_X3_behindEnd_27_5 _ hJ.1 (by have f0 := p_v5; have f1 := i_rg v5; have f2 := i_nle c2; have f3 := j_rd hJ 27 7 0 60 rfl; omega)) (fun r4 s5 hs5 => ?_)
          have js5 : JC 4574801537479224066080 s0 s5 := j_call hJ hs5.1 rfl
          exact ih _ _ _ js5 hB (by have f0 := hs5.2.1; have f1 := i_rg r4; omega) (by have f0 := i_add (v6) ((1 : Int32)); have f1 := p_v6; have f2 := i_rg v6; have f3 : (1 : Int32).toInt = 1 := rfl; have f4 := i_nle c1; have f5 : (1000000 : Int32).toInt = 1000000 := rfl; omega) (by have g0 := i_add (v6) ((1 : Int32)); have g1 := hs5.2.1; have g2 := i_rg r4; have g3 := p_v6; have g4 := i_rg v6; have g5 : (1 : Int32).toInt = 1 := rfl; have g6 := i_nle c1; have g7 : (1000000 : Int32).toInt = 1000000 := rfl; have g8 := hn; omega)
        · refine oq_if (fun c4 => ?_) (fun c4 => ?_)
          · refine oq_b (h_X3_act_25_53_27_5 _ ((j_wf hJ rfl 5 rfl rfl) : JC 4574801537479224066080 s0 (pI s 5 3 ((s.1 5 3) + 1))).1 (buy_j hB ((j_wf hJ rfl 5 rfl rfl) : JC 4574801537479224066080 s0 (pI s 5 3 ((s.1 5 3) + 1))) rfl rfl rfl) (by have f0 := p_v5; have f1 := i_rg v5; have f2 := i_nle c2; have f3 := j_rd hJ 27 7 0 60 rfl; omega) (by have g0 := p_v5; have g1 := i_rg v5; have g2 := j_rd ((j_wf hJ rfl 5 rfl rfl) : JC 4574801537479224066080 s0 (pI s 5 3 ((s.1 5 3) + 1))) 27 7 0 60 rfl; have g3 : ((pI s 5 3 ((s.1 5 3) + 1)).1 27 7).toInt = (s.1 27 7).toInt := u_nc rfl; have g4 := j_rd hJ 27 7 0 60 rfl; have g5 := i_nle c2; omega)) (fun u5 s7 hs7 => ?_)
            have js7 : JC 4574801537479224066080 s0 s7 := j_call ((j_wf hJ rfl 5 rfl rfl) : JC 4574801537479224066080 s0 (pI s 5 3 ((s.1 5 3) + 1))) hs7.1 rfl
            refine oq_b (h_X3_behindStep_25_53_27_5 _ js7.1 (by have f0 := p_v5; have f1 := i_rg v5; have f2 := i_nle c2; have f3 := j_rd hJ 27 7 0 60 rfl; omega)) (fun r8 s9 hs9 => ?_)
            have js9 : JC 4574801537479224066080 s0 s9 := j_call js7 hs9.1 rfl
            exact ih _ _ _ js9 hB (by have f0 := hs9.2.1; have f1 := i_rg r8; omega) (by have f0 := i_add (v6) ((1 : Int32)); have f1 := p_v6; have f2 := i_rg v6; have f3 : (1 : Int32).toInt = 1 := rfl; have f4 := i_nle c1; have f5 : (1000000 : Int32).toInt = 1000000 := rfl; omega) (by have g0 := i_add (v6) ((1 : Int32)); have g1 := hs9.2.1; have g2 := i_rg r8; have g3 := p_v6; have g4 := i_rg v6; have g5 : (1 : Int32).toInt = 1 := rfl; have g6 := i_nle c1; have g7 : (1000000 : Int32).toInt = 1000000 := rfl; have g8 := hn; omega)
          · exact ⟨(j_wr 0 1 hJ rfl 5 rfl rfl (by have f0 : (1 : Int32).toInt = 1 := rfl; omega)), trivial⟩
theorem h_X3_run_25_53_27_5 (a4 : Int32) {s : Sg} (hR : Rg rC s) (hB : BuyW 24 s) (p_a4 : 0 ≤ a4.toInt ∧ a4.toInt ≤ 2147483647) : OQ (f_X3_run_25_53_27_5 a4 s) (fun _ s9 => JC 4574801537479224066080 s s9 ∧ True) := by
  have hJ : JC 4574801537479224066080 s s := j_refl hR
  unfold f_X3_run_25_53_27_5
  refine oq_b (h_X3_begin_5 _ hJ.1 (by have f0 := p_a4; have f1 := i_rg a4; omega)) (fun u1 s2 hs2 => ?_)
  have js2 : JC 4574801537479224066080 s s2 := j_call hJ hs2.1 rfl
  exact h_X3_run_25_53_27_5_b12 BIG _ _ _ js2 hB (by have f0 : (0 : Int32).toInt = 0 := rfl; omega) (by have f0 : (0 : Int32).toInt = 0 := rfl; omega) (by have g0 : (0 : Int32).toInt = 0 := rfl; have g1 : BIG = 4294967296 := rfl; omega)
theorem h_X11_odds_b72 {s0 : Sg} (n : Nat) : ∀ (v1 : Int32) (v2 : Int32) (v3 : Int32) (v4 : Int32) (v5 : Int32) (s : Sg), JC 335233399564413187765888412189134708718136662201729056 s0 s → BuyW 24 s0 → 0 ≤ v1.toInt ∧ v1.toInt ≤ 255 → 0 ≤ v2.toInt ∧ v2.toInt ≤ 9999 → 1 ≤ v3.toInt ∧ v3.toInt ≤ 20 → 0 ≤ v5.toInt ∧ v5.toInt ≤ 20 → 20 - v5.toInt < (n : Int) → OQ (f_X11_odds_b72 n v1 v2 v3 v4 v5 s) (fun r9 s9 => JC 335233399564413187765888412189134708718136662201729056 s0 s9 ∧ (0 ≤ r9.toInt ∧ r9.toInt ≤ 1) ∧ (r9 = 0 → True) ∧ (¬ r9 = 0 → True)) := by
  induction n with
  | zero => intro v1 v2 v3 v4 v5 s hJ hB p_v1 p_v2 p_v3 p_v5 hn; exact False.elim (by have g0 := hn; have g1 := p_v1; have g2 := p_v2; have g3 := p_v3; have g4 := p_v5; have g5 := i_rg v1; have g6 := i_rg v2; have g7 := i_rg v3; have g8 := i_rg v4; have g9 := i_rg v5; omega)
  | succ n ih =>
    intro v1 v2 v3 v4 v5 s hJ hB p_v1 p_v2 p_v3 p_v5 hn
    unfold f_X11_odds_b72
    refine oq_if (fun c1 => ?_) (fun c1 => ?_)
    · refine oq_b (h_X11_tellFraction _ _ hJ.1) (fun u2 s16 hs16 => ?_)
      have js16 : JC 335233399564413187765888412189134708718136662201729056 s0 s16 := j_call hJ hs16.1 rfl
      refine oq_b (h_X11_granted  js16.1) (fun r17 s18 hs18 => ?_)
      have js18 : JC 335233399564413187765888412189134708718136662201729056 s0 s18 := j_call js16 hs18.1 rfl
      refine oq_c (b01_of (by have f0 := hs18.2.1; have f1 := i_rg r17; omega)) ?_
      exact ⟨js18, (by have f0 := hs18.2.1; have f1 := i_rg r17; omega), fun w9 => False.elim (by have f0 := hs18.2.1; have f1 := i_rg r17; have f2 := i_eq w9; have f3 : (0 : Int32).toInt = 0 := rfl; omega), fun _ => trivial⟩
    · refine oq_b (h_X2_copyFrom_26_53  hJ.1) (fun u3 s20 hs20 => ?_)
      have js20 : JC 335233399564413187765888412189134708718136662201729056 s0 s20 := j_call hJ hs20.1 rfl
      refine oq_b (h_X3_run_25_53_27_5 _ js20.1 (buy_j hB js20 rfl rfl rfl) (by have f0 := i_add (v2) (v5); have f1 := p_v2; have f2 := i_rg v2; have f3 := p_v5; have f4 := i_rg v5; have f5 := i_nle c1; have f6 := p_v3; have f7 := i_rg v3; omega)) (fun u4 s22 hs22 => ?_)
      have js22 : JC 335233399564413187765888412189134708718136662201729056 s0 s22 := j_call js20 hs22.1 rfl
      refine oq_if (fun c5 => ?_) (fun c5 => ?_)
      · exact ih _ _ _ _ _ _ js22 hB (by have f0 := p_v1; have f1 := i_rg v1; have f2 := i_eq c5; have f3 := i_rg (s22.1 53 5); omega) (by have f0 := p_v2; have f1 := i_rg v2; omega) (by have f0 := p_v3; have f1 := i_rg v3; have f2 := i_nle c1; have f3 := p_v5; have f4 := i_rg v5; omega) (by have f0 := i_add (v5) ((1 : Int32)); have f1 := p_v5; have f2 := i_rg v5; have f3 : (1 : Int32).toInt = 1 := rfl; have f4 := i_nle c1; have f5 := p_v3; have f6 := i_rg v3; omega) (by have g0 := i_add (v4) ((1 : Int32)); have g1 := i_add (v5) ((1 : Int32)); have g2 := p_v1; have g3 := i_rg v1; have g4 := p_v2; have g5 := i_rg v2; have g6 := p_v3; have g7 := i_rg v3; have g8 := i_rg v4; have g9 : (1 : Int32).toInt = 1 := rfl; have g10 := p_v5; have g11 := i_rg v5; have g12 := i_nle c1; have g13 := i_eq c5; have g14 := i_rg (s22.1 53 5); have g15 := hn; omega)
      · exact ih _ _ _ _ _ _ js22 hB (by have f0 := p_v1; have f1 := i_rg v1; have f2 := i_ne c5; have f3 := i_rg (s22.1 53 5); omega) (by have f0 := p_v2; have f1 := i_rg v2; omega) (by have f0 := p_v3; have f1 := i_rg v3; have f2 := i_nle c1; have f3 := p_v5; have f4 := i_rg v5; omega) (by have f0 := i_add (v5) ((1 : Int32)); have f1 := p_v5; have f2 := i_rg v5; have f3 : (1 : Int32).toInt = 1 := rfl; have f4 := i_nle c1; have f5 := p_v3; have f6 := i_rg v3; omega) (by have g0 := i_add (v5) ((1 : Int32)); have g1 := p_v1; have g2 := i_rg v1; have g3 := p_v2; have g4 := i_rg v2; have g5 := p_v3; have g6 := i_rg v3; have g7 := i_rg v4; have g8 := p_v5; have g9 := i_rg v5; have g10 : (1 : Int32).toInt = 1 := rfl; have g11 := i_nle c1; have g12 := i_ne c5; have g13 := i_rg (s22.1 53 5); have g14 := hn; omega)
theorem h_X11_odds (a1 : Int32) (a2 : Int32) (a3 : Int32) {s : Sg} (hR : Rg rC s) (hB : BuyW 24 s) : OQ (f_X11_odds a1 a2 a3 s) (fun r9 s9 => JC 335233399564413187765888412189134708718136662201729056 s s9 ∧ (0 ≤ r9.toInt ∧ r9.toInt ≤ 1) ∧ (r9 = 0 → True) ∧ (¬ r9 = 0 → True)) := by
  have hJ : JC 335233399564413187765888412189134708718136662201729056 s s := j_refl hR
  unfold f_X11_odds
  refine oq_b (h_X11_isSet _ hJ.1) (fun r1 s2 hs2 => ?_)
  have js2 : JC 335233399564413187765888412189134708718136662201729056 s s2 := j_call hJ hs2.1 rfl
  refine oq_if (fun c1 => ?_) (fun c1 => ?_)
  · refine oq_b (h_X11_refused _ js2.1 (by have f0 : (1 : Int32).toInt = 1 := rfl; omega)) (fun r3 s4 hs4 => ?_)
    have js4 : JC 335233399564413187765888412189134708718136662201729056 s s4 := j_call js2 hs4.1 rfl
    refine oq_c (b01_of (by have f0 := hs4.2.1; have f1 := i_rg r3; omega)) ?_
    exact ⟨js4, (by have f0 := hs4.2.1; have f1 := i_rg r3; omega), fun _ => trivial, fun w9 => False.elim (by have f0 := hs4.2.1; have f1 := i_rg r3; have f2 := i_ne w9; have f3 : (0 : Int32).toInt = 0 := rfl; omega)⟩
  · refine oq_b (h_X11_within _ _ _ js2.1 (by have f0 : (0 : Int32).toInt = 0 := rfl; omega) (by have f0 : (9999 : Int32).toInt = 9999 := rfl; omega)) (fun r5 s6 hs6 => ?_)
    have js6 : JC 335233399564413187765888412189134708718136662201729056 s s6 := j_call js2 hs6.1 rfl
    refine oq_if (fun c2 => ?_) (fun c2 => ?_)
    · refine oq_b (h_X11_refused _ js6.1 (by have f0 : (1 : Int32).toInt = 1 := rfl; omega)) (fun r7 s8 hs8 => ?_)
      have js8 : JC 335233399564413187765888412189134708718136662201729056 s s8 := j_call js6 hs8.1 rfl
      refine oq_c (b01_of (by have f0 := hs8.2.1; have f1 := i_rg r7; omega)) ?_
      exact ⟨js8, (by have f0 := hs8.2.1; have f1 := i_rg r7; omega), fun _ => trivial, fun w9 => False.elim (by have f0 := hs8.2.1; have f1 := i_rg r7; have f2 := i_ne w9; have f3 : (0 : Int32).toInt = 0 := rfl; omega)⟩
    · refine oq_b (h_X11_within _ _ _ js6.1 (by have f0 : (1 : Int32).toInt = 1 := rfl; have f1 := (hs6.2.2.2 c2).2.2.2; have f2 : (0 : Int32).toInt = 0 := rfl; have f3 : (9999 : Int32).toInt = 9999 := rfl; omega) (by have f0 : (20 : Int32).toInt = 20 := rfl; have f1 := (hs6.2.2.2 c2).2.2.2; have f2 : (0 : Int32).toInt = 0 := rfl; have f3 : (9999 : Int32).toInt = 9999 := rfl; omega)) (fun r9 s10 hs10 => ?_)
      have js10 : JC 335233399564413187765888412189134708718136662201729056 s s10 := j_call js6 hs10.1 rfl
      refine oq_if (fun c3 => ?_) (fun c3 => ?_)
      · refine oq_b (h_X11_refused _ js10.1 (by have f0 : (1 : Int32).toInt = 1 := rfl; have f1 := (hs6.2.2.2 c2).2.2.2; have f2 : (0 : Int32).toInt = 0 := rfl; have f3 : (9999 : Int32).toInt = 9999 := rfl; omega)) (fun r11 s12 hs12 => ?_)
        have js12 : JC 335233399564413187765888412189134708718136662201729056 s s12 := j_call js10 hs12.1 rfl
        refine oq_c (b01_of (by have f0 := hs12.2.1; have f1 := i_rg r11; have f2 := (hs6.2.2.2 c2).2.2.2; have f3 : (0 : Int32).toInt = 0 := rfl; have f4 : (9999 : Int32).toInt = 9999 := rfl; omega)) ?_
        exact ⟨js12, (by have f0 := hs12.2.1; have f1 := i_rg r11; have f2 := (hs6.2.2.2 c2).2.2.2; have f3 : (0 : Int32).toInt = 0 := rfl; have f4 : (9999 : Int32).toInt = 9999 := rfl; omega), fun _ => trivial, fun w9 => False.elim (by have f0 := hs12.2.1; have f1 := i_rg r11; have f2 := (hs6.2.2.2 c2).2.2.2; have f3 := i_ne w9; have f4 : (0 : Int32).toInt = 0 := rfl; have f5 : (9999 : Int32).toInt = 9999 := rfl; omega)⟩
      · refine oq_if (fun c4 => ?_) (fun c4 => ?_)
        · refine oq_if (fun c5 => ?_) (fun c5 => ?_)
          · refine oq_b (h_X11_refused _ js10.1 (by have f0 : (6 : Int32).toInt = 6 := rfl; have f1 := (hs6.2.2.2 c2).2.2.2; have f2 := (hs10.2.2.2 c3).2.2.2; have f3 : (0 : Int32).toInt = 0 := rfl; have f4 : (9999 : Int32).toInt = 9999 := rfl; have f5 : (20 : Int32).toInt = 20 := rfl; omega)) (fun r13 s14 hs14 => ?_)
            have js14 : JC 335233399564413187765888412189134708718136662201729056 s s14 := j_call js10 hs14.1 rfl
            refine oq_c (b01_of (by have f0 := hs14.2.1; have f1 := i_rg r13; have f2 := (hs6.2.2.2 c2).2.2.2; have f3 := (hs10.2.2.2 c3).2.2.2; have f4 : (0 : Int32).toInt = 0 := rfl; have f5 : (9999 : Int32).toInt = 9999 := rfl; have f6 : (20 : Int32).toInt = 20 := rfl; omega)) ?_
            exact ⟨js14, (by have f0 := hs14.2.1; have f1 := i_rg r13; have f2 := (hs6.2.2.2 c2).2.2.2; have f3 := (hs10.2.2.2 c3).2.2.2; have f4 : (0 : Int32).toInt = 0 := rfl; have f5 : (9999 : Int32).toInt = 9999 := rfl; have f6 : (20 : Int32).toInt = 20 := rfl; omega), fun _ => trivial, fun w9 => False.elim (by have f0 := hs14.2.1; have f1 := i_rg r13; have f2 := (hs6.2.2.2 c2).2.2.2; have f3 := (hs10.2.2.2 c3).2.2.2; have f4 := i_ne w9; have f5 : (0 : Int32).toInt = 0 := rfl; have f6 : (9999 : Int32).toInt = 9999 := rfl; have f7 : (20 : Int32).toInt = 20 := rfl; omega)⟩
          · exact h_X11_odds_b72 BIG _ _ _ _ _ _ js10 hB (by have f0 := i_rg a1; have f1 := (hs2.2.2.2 c1).1; have f2 := (hs2.2.2.2 c1).2; have f3 := (hs6.2.2.2 c2).2.2.2; have f4 := (hs10.2.2.2 c3).2.2.2; have f5 : (0 : Int32).toInt = 0 := rfl; have f6 : (255 : Int32).toInt = 255 := rfl; have f7 : (9999 : Int32).toInt = 9999 := rfl; have f8 : (20 : Int32).toInt = 20 := rfl; omega) (by have f0 := i_rg a2; have f1 := (hs6.2.2.2 c2).1; have f2 := (hs6.2.2.2 c2).2.1; have f3 := (hs6.2.2.2 c2).2.2.1; have f4 := (hs6.2.2.2 c2).2.2.2; have f5 := (hs10.2.2.2 c3).2.2.2; have f6 := i_le c4; have f7 := i_add (a2) (a3); have f8 := i_sub (a2 + a3) ((1 : Int32)); have f9 : (0 : Int32).toInt = 0 := rfl; have f10 : (9999 : Int32).toInt = 9999 := rfl; have f11 : (20 : Int32).toInt = 20 := rfl; have f12 := i_rg a3; have f13 : (1 : Int32).toInt = 1 := rfl; have f14 := (hs10.2.2.2 c3).1; have f15 := (hs10.2.2.2 c3).2.1; have f16 := (hs10.2.2.2 c3).2.2.1; omega) (by have f0 := i_rg a3; have f1 := (hs6.2.2.2 c2).2.2.2; have f2 := (hs10.2.2.2 c3).1; have f3 := (hs10.2.2.2 c3).2.1; have f4 := (hs10.2.2.2 c3).2.2.1; have f5 := (hs10.2.2.2 c3).2.2.2; have f6 := i_le c4; have f7 := i_add (a2) (a3); have f8 := i_sub (a2 + a3) ((1 : Int32)); have f9 : (0 : Int32).toInt = 0 := rfl; have f10 : (9999 : Int32).toInt = 9999 := rfl; have f11 : (1 : Int32).toInt = 1 := rfl; have f12 : (20 : Int32).toInt = 20 := rfl; have f13 := i_rg a2; have f14 := (hs6.2.2.2 c2).1; have f15 := (hs6.2.2.2 c2).2.1; have f16 := (hs6.2.2.2 c2).2.2.1; omega) (by have f0 : (0 : Int32).toInt = 0 := rfl; have f1 := (hs6.2.2.2 c2).2.2.2; have f2 := (hs10.2.2.2 c3).2.2.2; have f3 : (9999 : Int32).toInt = 9999 := rfl; have f4 : (20 : Int32).toInt = 20 := rfl; omega) (by have g0 := i_rg a1; have g1 := i_rg a2; have g2 := i_rg a3; have g3 : (0 : Int32).toInt = 0 := rfl; have g4 := (hs2.2.2.2 c1).1; have g5 := (hs2.2.2.2 c1).2; have g6 := (hs6.2.2.2 c2).1; have g7 := (hs6.2.2.2 c2).2.1; have g8 := (hs6.2.2.2 c2).2.2.1; have g9 := (hs6.2.2.2 c2).2.2.2; have g10 := (hs10.2.2.2 c3).1; have g11 := (hs10.2.2.2 c3).2.1; have g12 := (hs10.2.2.2 c3).2.2.1; have g13 := (hs10.2.2.2 c3).2.2.2; have g14 := i_le c4; have g15 := i_add (a2) (a3); have g16 := i_sub (a2 + a3) ((1 : Int32)); have g17 : (255 : Int32).toInt = 255 := rfl; have g18 : (9999 : Int32).toInt = 9999 := rfl; have g19 : (1 : Int32).toInt = 1 := rfl; have g20 : (20 : Int32).toInt = 20 := rfl; have g21 : BIG = 4294967296 := rfl; omega)
        · refine oq_b (h_X11_refused _ js10.1 (by have f0 : (1 : Int32).toInt = 1 := rfl; have f1 := (hs6.2.2.2 c2).2.2.2; have f2 := (hs10.2.2.2 c3).2.2.2; have f3 : (0 : Int32).toInt = 0 := rfl; have f4 : (9999 : Int32).toInt = 9999 := rfl; have f5 : (20 : Int32).toInt = 20 := rfl; omega)) (fun r23 s24 hs24 => ?_)
          have js24 : JC 335233399564413187765888412189134708718136662201729056 s s24 := j_call js10 hs24.1 rfl
          refine oq_c (b01_of (by have f0 := hs24.2.1; have f1 := i_rg r23; have f2 := (hs6.2.2.2 c2).2.2.2; have f3 := (hs10.2.2.2 c3).2.2.2; have f4 : (0 : Int32).toInt = 0 := rfl; have f5 : (9999 : Int32).toInt = 9999 := rfl; have f6 : (20 : Int32).toInt = 20 := rfl; omega)) ?_
          exact ⟨js24, (by have f0 := hs24.2.1; have f1 := i_rg r23; have f2 := (hs6.2.2.2 c2).2.2.2; have f3 := (hs10.2.2.2 c3).2.2.2; have f4 : (0 : Int32).toInt = 0 := rfl; have f5 : (9999 : Int32).toInt = 9999 := rfl; have f6 : (20 : Int32).toInt = 20 := rfl; omega), fun _ => trivial, fun w9 => False.elim (by have f0 := hs24.2.1; have f1 := i_rg r23; have f2 := (hs6.2.2.2 c2).2.2.2; have f3 := (hs10.2.2.2 c3).2.2.2; have f4 := i_ne w9; have f5 : (0 : Int32).toInt = 0 := rfl; have f6 : (9999 : Int32).toInt = 9999 := rfl; have f7 : (20 : Int32).toInt = 20 := rfl; omega)⟩
theorem h_X11_copyRow_83_29  {s : Sg} (hR : Rg rC s) (z_0_14 : 0 ≤ (s.1 0 14).toInt ∧ (s.1 0 14).toInt ≤ 0) : OQ (f_X11_copyRow_83_29  s) (fun _ s9 => JC 9671406556917033397649408 s s9 ∧ True) := by
  have hJ : JC 9671406556917033397649408 s s := j_refl hR
  unfold f_X11_copyRow_83_29
  refine oq_c ⟨(nlt_of (by have f0 : (0 : Int32).toInt = 0 := rfl; omega)), (nlt_of (by have f0 : (0 : Int32).toInt = 0 := rfl; omega)), (nlt_of (by have f0 := ite_lt ((24 : Int32)) ((24 : Int32)) ((24 : Int32)) ((24 : Int32)); have f1 : (24 : Int32).toInt = 24 := rfl; omega)), (by have f0 := ite_lt ((24 : Int32)) ((24 : Int32)) ((24 : Int32)) ((24 : Int32)); have f1 : (24 : Int32).toInt = 24 := rfl; have f2 := cl_nat (if 24 < (24 : Int32) then 24 else (24 : Int32)); omega), (by have f0 := ite_lt ((24 : Int32)) ((24 : Int32)) ((24 : Int32)) ((24 : Int32)); have f1 : (24 : Int32).toInt = 24 := rfl; have f2 := cl_nat (if 24 < (24 : Int32) then 24 else (24 : Int32)); omega)⟩ ?_
  exact ⟨(j_cp hJ (fun _ _ => rfl) 83 (fun _ => rfl) rfl), trivial⟩
theorem h_X11_copyRow_84_30  {s : Sg} (hR : Rg rC s) (z_0_14 : 0 ≤ (s.1 0 14).toInt ∧ (s.1 0 14).toInt ≤ 0) : OQ (f_X11_copyRow_84_30  s) (fun _ s9 => JC 19342813113834066795298816 s s9 ∧ True) := by
  have hJ : JC 19342813113834066795298816 s s := j_refl hR
  unfold f_X11_copyRow_84_30
  refine oq_c ⟨(nlt_of (by have f0 : (0 : Int32).toInt = 0 := rfl; omega)), (nlt_of (by have f0 : (0 : Int32).toInt = 0 := rfl; omega)), (nlt_of (by have f0 := ite_lt ((24 : Int32)) ((24 : Int32)) ((24 : Int32)) ((24 : Int32)); have f1 : (24 : Int32).toInt = 24 := rfl; omega)), (by have f0 := ite_lt ((24 : Int32)) ((24 : Int32)) ((24 : Int32)) ((24 : Int32)); have f1 : (24 : Int32).toInt = 24 := rfl; have f2 := cl_nat (if 24 < (24 : Int32) then 24 else (24 : Int32)); omega), (by have f0 := ite_lt ((24 : Int32)) ((24 : Int32)) ((24 : Int32)) ((24 : Int32)); have f1 : (24 : Int32).toInt = 24 := rfl; have f2 := cl_nat (if 24 < (24 : Int32) then 24 else (24 : Int32)); omega)⟩ ?_
  exact ⟨(j_cp hJ (fun _ _ => rfl) 84 (fun _ => rfl) rfl), trivial⟩
theorem h_X11_copyRow_85_31  {s : Sg} (hR : Rg rC s) (z_0_14 : 0 ≤ (s.1 0 14).toInt ∧ (s.1 0 14).toInt ≤ 0) : OQ (f_X11_copyRow_85_31  s) (fun _ s9 => JC 38685626227668133590597632 s s9 ∧ True) := by
  have hJ : JC 38685626227668133590597632 s s := j_refl hR
  unfold f_X11_copyRow_85_31
  refine oq_c ⟨(nlt_of (by have f0 : (0 : Int32).toInt = 0 := rfl; omega)), (nlt_of (by have f0 : (0 : Int32).toInt = 0 := rfl; omega)), (nlt_of (by have f0 := ite_lt ((8 : Int32)) ((8 : Int32)) ((8 : Int32)) ((8 : Int32)); have f1 : (8 : Int32).toInt = 8 := rfl; omega)), (by have f0 := ite_lt ((8 : Int32)) ((8 : Int32)) ((8 : Int32)) ((8 : Int32)); have f1 : (8 : Int32).toInt = 8 := rfl; have f2 := cl_nat (if 8 < (8 : Int32) then 8 else (8 : Int32)); omega), (by have f0 := ite_lt ((8 : Int32)) ((8 : Int32)) ((8 : Int32)) ((8 : Int32)); have f1 : (8 : Int32).toInt = 8 := rfl; have f2 := cl_nat (if 8 < (8 : Int32) then 8 else (8 : Int32)); omega)⟩ ?_
  exact ⟨(j_cp hJ (fun _ _ => rfl) 85 (fun _ => rfl) rfl), trivial⟩
theorem h_X11_copyRow_86_32  {s : Sg} (hR : Rg rC s) (z_0_14 : 0 ≤ (s.1 0 14).toInt ∧ (s.1 0 14).toInt ≤ 0) : OQ (f_X11_copyRow_86_32  s) (fun _ s9 => JC 77371252455336267181195264 s s9 ∧ True) := by
  have hJ : JC 77371252455336267181195264 s s := j_refl hR
  unfold f_X11_copyRow_86_32
  refine oq_c ⟨(nlt_of (by have f0 : (0 : Int32).toInt = 0 := rfl; omega)), (nlt_of (by have f0 : (0 : Int32).toInt = 0 := rfl; omega)), (nlt_of (by have f0 := ite_lt ((8 : Int32)) ((8 : Int32)) ((8 : Int32)) ((8 : Int32)); have f1 : (8 : Int32).toInt = 8 := rfl; omega)), (by have f0 := ite_lt ((8 : Int32)) ((8 : Int32)) ((8 : Int32)) ((8 : Int32)); have f1 : (8 : Int32).toInt = 8 := rfl; have f2 := cl_nat (if 8 < (8 : Int32) then 8 else (8 : Int32)); omega), (by have f0 := ite_lt ((8 : Int32)) ((8 : Int32)) ((8 : Int32)) ((8 : Int32)); have f1 : (8 : Int32).toInt = 8 := rfl; have f2 := cl_nat (if 8 < (8 : Int32) then 8 else (8 : Int32)); omega)⟩ ?_
  exact ⟨(j_cp hJ (fun _ _ => rfl) 86 (fun _ => rfl) rfl), trivial⟩
theorem h_X11_copyRow_87_33  {s : Sg} (hR : Rg rC s) (z_0_14 : 0 ≤ (s.1 0 14).toInt ∧ (s.1 0 14).toInt ≤ 0) : OQ (f_X11_copyRow_87_33  s) (fun _ s9 => JC 154742504910672534362390528 s s9 ∧ True) := by
  have hJ : JC 154742504910672534362390528 s s := j_refl hR
  unfold f_X11_copyRow_87_33
  refine oq_c ⟨(nlt_of (by have f0 : (0 : Int32).toInt = 0 := rfl; omega)), (nlt_of (by have f0 : (0 : Int32).toInt = 0 := rfl; omega)), (nlt_of (by have f0 := ite_lt ((8 : Int32)) ((8 : Int32)) ((8 : Int32)) ((8 : Int32)); have f1 : (8 : Int32).toInt = 8 := rfl; omega)), (by have f0 := ite_lt ((8 : Int32)) ((8 : Int32)) ((8 : Int32)) ((8 : Int32)); have f1 : (8 : Int32).toInt = 8 := rfl; have f2 := cl_nat (if 8 < (8 : Int32) then 8 else (8 : Int32)); omega), (by have f0 := ite_lt ((8 : Int32)) ((8 : Int32)) ((8 : Int32)) ((8 : Int32)); have f1 : (8 : Int32).toInt = 8 := rfl; have f2 := cl_nat (if 8 < (8 : Int32) then 8 else (8 : Int32)); omega)⟩ ?_
  exact ⟨(j_cp hJ (fun _ _ => rfl) 87 (fun _ => rfl) rfl), trivial⟩
theorem h_X11_copyRow_88_34  {s : Sg} (hR : Rg rC s) (z_0_14 : 0 ≤ (s.1 0 14).toInt ∧ (s.1 0 14).toInt ≤ 0) : OQ (f_X11_copyRow_88_34  s) (fun _ s9 => JC 309485009821345068724781056 s s9 ∧ True) := by
  have hJ : JC 309485009821345068724781056 s s := j_refl hR
  unfold f_X11_copyRow_88_34
  refine oq_c ⟨(nlt_of (by have f0 : (0 : Int32).toInt = 0 := rfl; omega)), (nlt_of (by have f0 : (0 : Int32).toInt = 0 := rfl; omega)), (nlt_of (by have f0 := ite_lt ((8 : Int32)) ((8 : Int32)) ((8 : Int32)) ((8 : Int32)); have f1 : (8 : Int32).toInt = 8 := rfl; omega)), (by have f0 := ite_lt ((8 : Int32)) ((8 : Int32)) ((8 : Int32)) ((8 : Int32)); have f1 : (8 : Int32).toInt = 8 := rfl; have f2 := cl_nat (if 8 < (8 : Int32) then 8 else (8 : Int32)); omega), (by have f0 := ite_lt ((8 : Int32)) ((8 : Int32)) ((8 : Int32)) ((8 : Int32)); have f1 : (8 : Int32).toInt = 8 := rfl; have f2 := cl_nat (if 8 < (8 : Int32) then 8 else (8 : Int32)); omega)⟩ ?_
  exact ⟨(j_cp hJ (fun _ _ => rfl) 88 (fun _ => rfl) rfl), trivial⟩
theorem h_X11_copyRow_89_35  {s : Sg} (hR : Rg rC s) (z_0_14 : 0 ≤ (s.1 0 14).toInt ∧ (s.1 0 14).toInt ≤ 0) : OQ (f_X11_copyRow_89_35  s) (fun _ s9 => JC 618970019642690137449562112 s s9 ∧ True) := by
  have hJ : JC 618970019642690137449562112 s s := j_refl hR
  unfold f_X11_copyRow_89_35
  refine oq_c ⟨(nlt_of (by have f0 : (0 : Int32).toInt = 0 := rfl; omega)), (nlt_of (by have f0 : (0 : Int32).toInt = 0 := rfl; omega)), (nlt_of (by have f0 := ite_lt ((4 : Int32)) ((4 : Int32)) ((4 : Int32)) ((4 : Int32)); have f1 : (4 : Int32).toInt = 4 := rfl; omega)), (by have f0 := ite_lt ((4 : Int32)) ((4 : Int32)) ((4 : Int32)) ((4 : Int32)); have f1 : (4 : Int32).toInt = 4 := rfl; have f2 := cl_nat (if 4 < (4 : Int32) then 4 else (4 : Int32)); omega), (by have f0 := ite_lt ((4 : Int32)) ((4 : Int32)) ((4 : Int32)) ((4 : Int32)); have f1 : (4 : Int32).toInt = 4 := rfl; have f2 := cl_nat (if 4 < (4 : Int32) then 4 else (4 : Int32)); omega)⟩ ?_
  exact ⟨(j_cp hJ (fun _ _ => rfl) 89 (fun _ => rfl) rfl), trivial⟩
theorem h_X11_copyRow_90_36  {s : Sg} (hR : Rg rC s) (z_0_14 : 0 ≤ (s.1 0 14).toInt ∧ (s.1 0 14).toInt ≤ 0) : OQ (f_X11_copyRow_90_36  s) (fun _ s9 => JC 1237940039285380274899124224 s s9 ∧ True) := by
  have hJ : JC 1237940039285380274899124224 s s := j_refl hR
  unfold f_X11_copyRow_90_36
  refine oq_c ⟨(nlt_of (by have f0 : (0 : Int32).toInt = 0 := rfl; omega)), (nlt_of (by have f0 : (0 : Int32).toInt = 0 := rfl; omega)), (nlt_of (by have f0 := ite_lt ((4 : Int32)) ((4 : Int32)) ((4 : Int32)) ((4 : Int32)); have f1 : (4 : Int32).toInt = 4 := rfl; omega)), (by have f0 := ite_lt ((4 : Int32)) ((4 : Int32)) ((4 : Int32)) ((4 : Int32)); have f1 : (4 : Int32).toInt = 4 := rfl; have f2 := cl_nat (if 4 < (4 : Int32) then 4 else (4 : Int32)); omega), (by have f0 := ite_lt ((4 : Int32)) ((4 : Int32)) ((4 : Int32)) ((4 : Int32)); have f1 : (4 : Int32).toInt = 4 := rfl; have f2 := cl_nat (if 4 < (4 : Int32) then 4 else (4 : Int32)); omega)⟩ ?_
  exact ⟨(j_cp hJ (fun _ _ => rfl) 90 (fun _ => rfl) rfl), trivial⟩
theorem h_X11_copyRow_91_37  {s : Sg} (hR : Rg rC s) (z_0_14 : 0 ≤ (s.1 0 14).toInt ∧ (s.1 0 14).toInt ≤ 0) : OQ (f_X11_copyRow_91_37  s) (fun _ s9 => JC 2475880078570760549798248448 s s9 ∧ True) := by
  have hJ : JC 2475880078570760549798248448 s s := j_refl hR
  unfold f_X11_copyRow_91_37
  refine oq_c ⟨(nlt_of (by have f0 : (0 : Int32).toInt = 0 := rfl; omega)), (nlt_of (by have f0 : (0 : Int32).toInt = 0 := rfl; omega)), (nlt_of (by have f0 := ite_lt ((4 : Int32)) ((4 : Int32)) ((4 : Int32)) ((4 : Int32)); have f1 : (4 : Int32).toInt = 4 := rfl; omega)), (by have f0 := ite_lt ((4 : Int32)) ((4 : Int32)) ((4 : Int32)) ((4 : Int32)); have f1 : (4 : Int32).toInt = 4 := rfl; have f2 := cl_nat (if 4 < (4 : Int32) then 4 else (4 : Int32)); omega), (by have f0 := ite_lt ((4 : Int32)) ((4 : Int32)) ((4 : Int32)) ((4 : Int32)); have f1 : (4 : Int32).toInt = 4 := rfl; have f2 := cl_nat (if 4 < (4 : Int32) then 4 else (4 : Int32)); omega)⟩ ?_
  exact ⟨(j_cp hJ (fun _ _ => rfl) 91 (fun _ => rfl) rfl), trivial⟩
theorem h_X11_copyRow_92_38  {s : Sg} (hR : Rg rC s) (z_0_14 : 0 ≤ (s.1 0 14).toInt ∧ (s.1 0 14).toInt ≤ 0) : OQ (f_X11_copyRow_92_38  s) (fun _ s9 => JC 4951760157141521099596496896 s s9 ∧ True) := by
  have hJ : JC 4951760157141521099596496896 s s := j_refl hR
  unfold f_X11_copyRow_92_38
  refine oq_c ⟨(nlt_of (by have f0 : (0 : Int32).toInt = 0 := rfl; omega)), (nlt_of (by have f0 : (0 : Int32).toInt = 0 := rfl; omega)), (nlt_of (by have f0 := ite_lt ((4 : Int32)) ((4 : Int32)) ((4 : Int32)) ((4 : Int32)); have f1 : (4 : Int32).toInt = 4 := rfl; omega)), (by have f0 := ite_lt ((4 : Int32)) ((4 : Int32)) ((4 : Int32)) ((4 : Int32)); have f1 : (4 : Int32).toInt = 4 := rfl; have f2 := cl_nat (if 4 < (4 : Int32) then 4 else (4 : Int32)); omega), (by have f0 := ite_lt ((4 : Int32)) ((4 : Int32)) ((4 : Int32)) ((4 : Int32)); have f1 : (4 : Int32).toInt = 4 := rfl; have f2 := cl_nat (if 4 < (4 : Int32) then 4 else (4 : Int32)); omega)⟩ ?_
  exact ⟨(j_cp hJ (fun _ _ => rfl) 92 (fun _ => rfl) rfl), trivial⟩
theorem h_X11_copyRow_93_39  {s : Sg} (hR : Rg rC s) (z_0_14 : 0 ≤ (s.1 0 14).toInt ∧ (s.1 0 14).toInt ≤ 0) : OQ (f_X11_copyRow_93_39  s) (fun _ s9 => JC 9903520314283042199192993792 s s9 ∧ True) := by
  have hJ : JC 9903520314283042199192993792 s s := j_refl hR
  unfold f_X11_copyRow_93_39
  refine oq_c ⟨(nlt_of (by have f0 : (0 : Int32).toInt = 0 := rfl; omega)), (nlt_of (by have f0 : (0 : Int32).toInt = 0 := rfl; omega)), (nlt_of (by have f0 := ite_lt ((4 : Int32)) ((4 : Int32)) ((4 : Int32)) ((4 : Int32)); have f1 : (4 : Int32).toInt = 4 := rfl; omega)), (by have f0 := ite_lt ((4 : Int32)) ((4 : Int32)) ((4 : Int32)) ((4 : Int32)); have f1 : (4 : Int32).toInt = 4 := rfl; have f2 := cl_nat (if 4 < (4 : Int32) then 4 else (4 : Int32)); omega), (by have f0 := ite_lt ((4 : Int32)) ((4 : Int32)) ((4 : Int32)) ((4 : Int32)); have f1 : (4 : Int32).toInt = 4 := rfl; have f2 := cl_nat (if 4 < (4 : Int32) then 4 else (4 : Int32)); omega)⟩ ?_
  exact ⟨(j_cp hJ (fun _ _ => rfl) 93 (fun _ => rfl) rfl), trivial⟩
theorem h_X4_copyFrom_25_79  {s : Sg} (hR : Rg rC s) (z_0_14 : 0 ≤ (s.1 0 14).toInt ∧ (s.1 0 14).toInt ≤ 0) : OQ (f_X4_copyFrom_25_79  s) (fun _ s9 => JC 19802809388197433196274515968 s s9 ∧ True) := by
  have hJ : JC 19802809388197433196274515968 s s := j_refl hR
  unfold f_X4_copyFrom_25_79
  refine oq_b (h_X11_copyRow_83_29  ((j_cb hJ 82 (fun _ => rfl) rfl) : JC 19802809388197433196274515968 s (pB s 82 (va_cpy (s.2 28) (s.2 82) 0 0 24))).1 (by have f0 := j_rd ((j_cb hJ 82 (fun _ => rfl) rfl) : JC 19802809388197433196274515968 s (pB s 82 (va_cpy (s.2 28) (s.2 82) 0 0 24))) 0 14 0 3 rfl; have f1 : ((pB s 82 (va_cpy (s.2 28) (s.2 82) 0 0 24)).1 0 14).toInt = (s.1 0 14).toInt := rfl; have f2 := z_0_14; have f3 := j_rd hJ 0 14 0 3 rfl; omega)) (fun u1 s2 hs2 => ?_)
  have js2 : JC 19802809388197433196274515968 s s2 := j_call ((j_cb hJ 82 (fun _ => rfl) rfl) : JC 19802809388197433196274515968 s (pB s 82 (va_cpy (s.2 28) (s.2 82) 0 0 24))) hs2.1 rfl
  refine oq_b (h_X11_copyRow_84_30  js2.1 (by have f0 := j_rd js2 0 14 0 3 rfl; have f1 : (s2.1 0 14).toInt = ((pB s 82 (va_cpy (s.2 28) (s.2 82) 0 0 24)).1 0 14).toInt := j_fr hs2.1 0 14 174 rfl rfl; have f2 := j_rd ((j_cb hJ 82 (fun _ => rfl) rfl) : JC 19802809388197433196274515968 s (pB s 82 (va_cpy (s.2 28) (s.2 82) 0 0 24))) 0 14 0 3 rfl; have f3 : ((pB s 82 (va_cpy (s.2 28) (s.2 82) 0 0 24)).1 0 14).toInt = (s.1 0 14).toInt := rfl; have f4 := z_0_14; have f5 := j_rd hJ 0 14 0 3 rfl; omega)) (fun u2 s4 hs4 => ?_)
  have js4 : JC 19802809388197433196274515968 s s4 := j_call js2 hs4.1 rfl
  refine oq_b (h_X11_copyRow_85_31  js4.1 (by have f0 := j_rd js4 0 14 0 3 rfl; have f1 : (s4.1 0 14).toInt = (s2.1 0 14).toInt := j_fr hs4.1 0 14 174 rfl rfl; have f2 := j_rd js2 0 14 0 3 rfl; have f3 : (s2.1 0 14).toInt = ((pB s 82 (va_cpy (s.2 28) (s.2 82) 0 0 24)).1 0 14).toInt := j_fr hs2.1 0 14 174 rfl rfl; have f4 := j_rd ((j_cb hJ 82 (fun _ => rfl) rfl) : JC 19802809388197433196274515968 s (pB s 82 (va_cpy (s.2 28) (s.2 82) 0 0 24))) 0 14 0 3 rfl; have f5 : ((pB s 82 (va_cpy (s.2 28) (s.2 82) 0 0 24)).1 0 14).toInt = (s.1 0 14).toInt := rfl; have f6 := z_0_14; have f7 := j_rd hJ 0 14 0 3 rfl; omega)) (fun u3 s6 hs6 => ?_)
  have js6 : JC 19802809388197433196274515968 s s6 := j_call js4 hs6.1 rfl
  refine oq_b (h_X11_copyRow_86_32  js6.1 (by have f0 := j_rd js6 0 14 0 3 rfl; have f1 : (s6.1 0 14).toInt = (s4.1 0 14).toInt := j_fr hs6.1 0 14 174 rfl rfl; have f2 := j_rd js4 0 14 0 3 rfl; have f3 : (s4.1 0 14).toInt = (s2.1 0 14).toInt := j_fr hs4.1 0 14 174 rfl rfl; have f4 := j_rd js2 0 14 0 3 rfl; have f5 : (s2.1 0 14).toInt = ((pB s 82 (va_cpy (s.2 28) (s.2 82) 0 0 24)).1 0 14).toInt := j_fr hs2.1 0 14 174 rfl rfl; have f6 := j_rd ((j_cb hJ 82 (fun _ => rfl) rfl) : JC 19802809388197433196274515968 s (pB s 82 (va_cpy (s.2 28) (s.2 82) 0 0 24))) 0 14 0 3 rfl; have f7 : ((pB s 82 (va_cpy (s.2 28) (s.2 82) 0 0 24)).1 0 14).toInt = (s.1 0 14).toInt := rfl; have f8 := z_0_14; have f9 := j_rd hJ 0 14 0 3 rfl; omega)) (fun u4 s8 hs8 => ?_)
  have js8 : JC 19802809388197433196274515968 s s8 := j_call js6 hs8.1 rfl
  refine oq_b (h_X11_copyRow_87_33  js8.1 (by have f0 := j_rd js8 0 14 0 3 rfl; have f1 : (s8.1 0 14).toInt = (s6.1 0 14).toInt := j_fr hs8.1 0 14 174 rfl rfl; have f2 := j_rd js6 0 14 0 3 rfl; have f3 : (s6.1 0 14).toInt = (s4.1 0 14).toInt := j_fr hs6.1 0 14 174 rfl rfl; have f4 := j_rd js4 0 14 0 3 rfl; have f5 : (s4.1 0 14).toInt = (s2.1 0 14).toInt := j_fr hs4.1 0 14 174 rfl rfl; have f6 := j_rd js2 0 14 0 3 rfl; have f7 : (s2.1 0 14).toInt = ((pB s 82 (va_cpy (s.2 28) (s.2 82) 0 0 24)).1 0 14).toInt := j_fr hs2.1 0 14 174 rfl rfl; have f8 := j_rd ((j_cb hJ 82 (fun _ => rfl) rfl) : JC 19802809388197433196274515968 s (pB s 82 (va_cpy (s.2 28) (s.2 82) 0 0 24))) 0 14 0 3 rfl; have f9 : ((pB s 82 (va_cpy (s.2 28) (s.2 82) 0 0 24)).1 0 14).toInt = (s.1 0 14).toInt := rfl; have f10 := z_0_14; have f11 := j_rd hJ 0 14 0 3 rfl; omega)) (fun u5 s10 hs10 => ?_)
  have js10 : JC 19802809388197433196274515968 s s10 := j_call js8 hs10.1 rfl
  refine oq_b (h_X11_copyRow_88_34  js10.1 (by have f0 := j_rd js10 0 14 0 3 rfl; have f1 : (s10.1 0 14).toInt = (s8.1 0 14).toInt := j_fr hs10.1 0 14 174 rfl rfl; have f2 := j_rd js8 0 14 0 3 rfl; have f3 : (s8.1 0 14).toInt = (s6.1 0 14).toInt := j_fr hs8.1 0 14 174 rfl rfl; have f4 := j_rd js6 0 14 0 3 rfl; have f5 : (s6.1 0 14).toInt = (s4.1 0 14).toInt := j_fr hs6.1 0 14 174 rfl rfl; have f6 := j_rd js4 0 14 0 3 rfl; have f7 : (s4.1 0 14).toInt = (s2.1 0 14).toInt := j_fr hs4.1 0 14 174 rfl rfl; have f8 := j_rd js2 0 14 0 3 rfl; have f9 : (s2.1 0 14).toInt = ((pB s 82 (va_cpy (s.2 28) (s.2 82) 0 0 24)).1 0 14).toInt := j_fr hs2.1 0 14 174 rfl rfl; have f10 := j_rd ((j_cb hJ 82 (fun _ => rfl) rfl) : JC 19802809388197433196274515968 s (pB s 82 (va_cpy (s.2 28) (s.2 82) 0 0 24))) 0 14 0 3 rfl; have f11 : ((pB s 82 (va_cpy (s.2 28) (s.2 82) 0 0 24)).1 0 14).toInt = (s.1 0 14).toInt := rfl; have f12 := z_0_14; have f13 := j_rd hJ 0 14 0 3 rfl; omega)) (fun u6 s12 hs12 => ?_)
  have js12 : JC 19802809388197433196274515968 s s12 := j_call js10 hs12.1 rfl
  refine oq_b (h_X11_copyRow_89_35  js12.1 (by have f0 := j_rd js12 0 14 0 3 rfl; have f1 : (s12.1 0 14).toInt = (s10.1 0 14).toInt := j_fr hs12.1 0 14 174 rfl rfl; have f2 := j_rd js10 0 14 0 3 rfl; have f3 : (s10.1 0 14).toInt = (s8.1 0 14).toInt := j_fr hs10.1 0 14 174 rfl rfl; have f4 := j_rd js8 0 14 0 3 rfl; have f5 : (s8.1 0 14).toInt = (s6.1 0 14).toInt := j_fr hs8.1 0 14 174 rfl rfl; have f6 := j_rd js6 0 14 0 3 rfl; have f7 : (s6.1 0 14).toInt = (s4.1 0 14).toInt := j_fr hs6.1 0 14 174 rfl rfl; have f8 := j_rd js4 0 14 0 3 rfl; have f9 : (s4.1 0 14).toInt = (s2.1 0 14).toInt := j_fr hs4.1 0 14 174 rfl rfl; have f10 := j_rd js2 0 14 0 3 rfl; have f11 : (s2.1 0 14).toInt = ((pB s 82 (va_cpy (s.2 28) (s.2 82) 0 0 24)).1 0 14).toInt := j_fr hs2.1 0 14 174 rfl rfl; have f12 := j_rd ((j_cb hJ 82 (fun _ => rfl) rfl) : JC 19802809388197433196274515968 s (pB s 82 (va_cpy (s.2 28) (s.2 82) 0 0 24))) 0 14 0 3 rfl; have f13 : ((pB s 82 (va_cpy (s.2 28) (s.2 82) 0 0 24)).1 0 14).toInt = (s.1 0 14).toInt := rfl; have f14 := z_0_14; have f15 := j_rd hJ 0 14 0 3 rfl; omega)) (fun u7 s14 hs14 => ?_)
  have js14 : JC 19802809388197433196274515968 s s14 := j_call js12 hs14.1 rfl
  refine oq_b (h_X11_copyRow_90_36  js14.1 (by have f0 := j_rd js14 0 14 0 3 rfl; have f1 : (s14.1 0 14).toInt = (s12.1 0 14).toInt := j_fr hs14.1 0 14 174 rfl rfl; have f2 := j_rd js12 0 14 0 3 rfl; have f3 : (s12.1 0 14).toInt = (s10.1 0 14).toInt := j_fr hs12.1 0 14 174 rfl rfl; have f4 := j_rd js10 0 14 0 3 rfl; have f5 : (s10.1 0 14).toInt = (s8.1 0 14).toInt := j_fr hs10.1 0 14 174 rfl rfl; have f6 := j_rd js8 0 14 0 3 rfl; have f7 : (s8.1 0 14).toInt = (s6.1 0 14).toInt := j_fr hs8.1 0 14 174 rfl rfl; have f8 := j_rd js6 0 14 0 3 rfl; have f9 : (s6.1 0 14).toInt = (s4.1 0 14).toInt := j_fr hs6.1 0 14 174 rfl rfl; have f10 := j_rd js4 0 14 0 3 rfl; have f11 : (s4.1 0 14).toInt = (s2.1 0 14).toInt := j_fr hs4.1 0 14 174 rfl rfl; have f12 := j_rd js2 0 14 0 3 rfl; have f13 : (s2.1 0 14).toInt = ((pB s 82 (va_cpy (s.2 28) (s.2 82) 0 0 24)).1 0 14).toInt := j_fr hs2.1 0 14 174 rfl rfl; have f14 := j_rd ((j_cb hJ 82 (fun _ => rfl) rfl) : JC 19802809388197433196274515968 s (pB s 82 (va_cpy (s.2 28) (s.2 82) 0 0 24))) 0 14 0 3 rfl; have f15 : ((pB s 82 (va_cpy (s.2 28) (s.2 82) 0 0 24)).1 0 14).toInt = (s.1 0 14).toInt := rfl; have f16 := z_0_14; have f17 := j_rd hJ 0 14 0 3 rfl; omega)) (fun u8 s16 hs16 => ?_)
  have js16 : JC 19802809388197433196274515968 s s16 := j_call js14 hs16.1 rfl
  refine oq_b (h_X11_copyRow_91_37  js16.1 (by have f0 := j_rd js16 0 14 0 3 rfl; have f1 : (s16.1 0 14).toInt = (s14.1 0 14).toInt := j_fr hs16.1 0 14 174 rfl rfl; have f2 := j_rd js14 0 14 0 3 rfl; have f3 : (s14.1 0 14).toInt = (s12.1 0 14).toInt := j_fr hs14.1 0 14 174 rfl rfl; have f4 := j_rd js12 0 14 0 3 rfl; have f5 : (s12.1 0 14).toInt = (s10.1 0 14).toInt := j_fr hs12.1 0 14 174 rfl rfl; have f6 := j_rd js10 0 14 0 3 rfl; have f7 : (s10.1 0 14).toInt = (s8.1 0 14).toInt := j_fr hs10.1 0 14 174 rfl rfl; have f8 := j_rd js8 0 14 0 3 rfl; have f9 : (s8.1 0 14).toInt = (s6.1 0 14).toInt := j_fr hs8.1 0 14 174 rfl rfl; have f10 := j_rd js6 0 14 0 3 rfl; have f11 : (s6.1 0 14).toInt = (s4.1 0 14).toInt := j_fr hs6.1 0 14 174 rfl rfl; have f12 := j_rd js4 0 14 0 3 rfl; have f13 : (s4.1 0 14).toInt = (s2.1 0 14).toInt := j_fr hs4.1 0 14 174 rfl rfl; have f14 := j_rd js2 0 14 0 3 rfl; have f15 : (s2.1 0 14).toInt = ((pB s 82 (va_cpy (s.2 28) (s.2 82) 0 0 24)).1 0 14).toInt := j_fr hs2.1 0 14 174 rfl rfl; have f16 := j_rd ((j_cb hJ 82 (fun _ => rfl) rfl) : JC 19802809388197433196274515968 s (pB s 82 (va_cpy (s.2 28) (s.2 82) 0 0 24))) 0 14 0 3 rfl; have f17 : ((pB s 82 (va_cpy (s.2 28) (s.2 82) 0 0 24)).1 0 14).toInt = (s.1 0 14).toInt := rfl; have f18 := z_0_14; have f19 := j_rd hJ 0 14 0 3 rfl; omega)) (fun u9 s18 hs18 => ?_)
  have js18 : JC 19802809388197433196274515968 s s18 := j_call js16 hs18.1 rfl
  refine oq_b (h_X11_copyRow_92_38  js18.1 (by have f0 := j_rd js18 0 14 0 3 rfl; have f1 : (s18.1 0 14).toInt = (s16.1 0 14).toInt := j_fr hs18.1 0 14 174 rfl rfl; have f2 := j_rd js16 0 14 0 3 rfl; have f3 : (s16.1 0 14).toInt = (s14.1 0 14).toInt := j_fr hs16.1 0 14 174 rfl rfl; have f4 := j_rd js14 0 14 0 3 rfl; have f5 : (s14.1 0 14).toInt = (s12.1 0 14).toInt := j_fr hs14.1 0 14 174 rfl rfl; have f6 := j_rd js12 0 14 0 3 rfl; have f7 : (s12.1 0 14).toInt = (s10.1 0 14).toInt := j_fr hs12.1 0 14 174 rfl rfl; have f8 := j_rd js10 0 14 0 3 rfl; have f9 : (s10.1 0 14).toInt = (s8.1 0 14).toInt := j_fr hs10.1 0 14 174 rfl rfl; have f10 := j_rd js8 0 14 0 3 rfl; have f11 : (s8.1 0 14).toInt = (s6.1 0 14).toInt := j_fr hs8.1 0 14 174 rfl rfl; have f12 := j_rd js6 0 14 0 3 rfl; have f13 : (s6.1 0 14).toInt = (s4.1 0 14).toInt := j_fr hs6.1 0 14 174 rfl rfl; have f14 := j_rd js4 0 14 0 3 rfl; have f15 : (s4.1 0 14).toInt = (s2.1 0 14).toInt := j_fr hs4.1 0 14 174 rfl rfl; have f16 := j_rd js2 0 14 0 3 rfl; have f17 : (s2.1 0 14).toInt = ((pB s 82 (va_cpy (s.2 28) (s.2 82) 0 0 24)).1 0 14).toInt := j_fr hs2.1 0 14 174 rfl rfl; have f18 := j_rd ((j_cb hJ 82 (fun _ => rfl) rfl) : JC 19802809388197433196274515968 s (pB s 82 (va_cpy (s.2 28) (s.2 82) 0 0 24))) 0 14 0 3 rfl; have f19 : ((pB s 82 (va_cpy (s.2 28) (s.2 82) 0 0 24)).1 0 14).toInt = (s.1 0 14).toInt := rfl; have f20 := z_0_14; have f21 := j_rd hJ 0 14 0 3 rfl; omega)) (fun u10 s20 hs20 => ?_)
  have js20 : JC 19802809388197433196274515968 s s20 := j_call js18 hs20.1 rfl
  refine oq_b (h_X11_copyRow_93_39  js20.1 (by have f0 := j_rd js20 0 14 0 3 rfl; have f1 : (s20.1 0 14).toInt = (s18.1 0 14).toInt := j_fr hs20.1 0 14 174 rfl rfl; have f2 := j_rd js18 0 14 0 3 rfl; have f3 : (s18.1 0 14).toInt = (s16.1 0 14).toInt := j_fr hs18.1 0 14 174 rfl rfl; have f4 := j_rd js16 0 14 0 3 rfl; have f5 : (s16.1 0 14).toInt = (s14.1 0 14).toInt := j_fr hs16.1 0 14 174 rfl rfl; have f6 := j_rd js14 0 14 0 3 rfl; have f7 : (s14.1 0 14).toInt = (s12.1 0 14).toInt := j_fr hs14.1 0 14 174 rfl rfl; have f8 := j_rd js12 0 14 0 3 rfl; have f9 : (s12.1 0 14).toInt = (s10.1 0 14).toInt := j_fr hs12.1 0 14 174 rfl rfl; have f10 := j_rd js10 0 14 0 3 rfl; have f11 : (s10.1 0 14).toInt = (s8.1 0 14).toInt := j_fr hs10.1 0 14 174 rfl rfl; have f12 := j_rd js8 0 14 0 3 rfl; have f13 : (s8.1 0 14).toInt = (s6.1 0 14).toInt := j_fr hs8.1 0 14 174 rfl rfl; have f14 := j_rd js6 0 14 0 3 rfl; have f15 : (s6.1 0 14).toInt = (s4.1 0 14).toInt := j_fr hs6.1 0 14 174 rfl rfl; have f16 := j_rd js4 0 14 0 3 rfl; have f17 : (s4.1 0 14).toInt = (s2.1 0 14).toInt := j_fr hs4.1 0 14 174 rfl rfl; have f18 := j_rd js2 0 14 0 3 rfl; have f19 : (s2.1 0 14).toInt = ((pB s 82 (va_cpy (s.2 28) (s.2 82) 0 0 24)).1 0 14).toInt := j_fr hs2.1 0 14 174 rfl rfl; have f20 := j_rd ((j_cb hJ 82 (fun _ => rfl) rfl) : JC 19802809388197433196274515968 s (pB s 82 (va_cpy (s.2 28) (s.2 82) 0 0 24))) 0 14 0 3 rfl; have f21 : ((pB s 82 (va_cpy (s.2 28) (s.2 82) 0 0 24)).1 0 14).toInt = (s.1 0 14).toInt := rfl; have f22 := z_0_14; have f23 := j_rd hJ 0 14 0 3 rfl; omega)) (fun u11 s22 hs22 => ?_)
  have js22 : JC 19802809388197433196274515968 s s22 := j_call js20 hs22.1 rfl
  refine oq_n (fun s23 es23 => ?_)
  have js23 : JC 19802809388197433196274515968 s s23 := by rw [es23]; exact (j_wr 0 8 (j_wr 0 24 js22 rfl 79 rfl rfl (by have f0 := j_rd js22 25 12 0 24 rfl; omega)) rfl 79 rfl rfl (by have f0 := j_rd ((j_wr 0 24 js22 rfl 79 rfl rfl (by have f0 := j_rd js22 25 12 0 24 rfl; omega)) : JC 19802809388197433196274515968 s (pI s22 79 12 (s22.1 25 12))) 25 13 0 8 rfl; omega))
  refine oq_n (fun s24 es24 => ?_)
  have js24 : JC 19802809388197433196274515968 s s24 := by rw [es24]; exact (j_wr 0 4 (j_wr 0 8 js23 rfl 79 rfl rfl (by have f0 := j_rd js23 25 14 0 8 rfl; omega)) rfl 79 rfl rfl (by have f0 := j_rd ((j_wr 0 8 js23 rfl 79 rfl rfl (by have f0 := j_rd js23 25 14 0 8 rfl; omega)) : JC 19802809388197433196274515968 s (pI s23 79 14 (s23.1 25 14))) 25 15 0 4 rfl; omega))
  refine oq_n (fun s25 es25 => ?_)
  have js25 : JC 19802809388197433196274515968 s s25 := by rw [es25]; exact (j_wf (j_wr 0 4 js24 rfl 79 rfl rfl (by have f0 := j_rd js24 25 16 0 4 rfl; omega)) rfl 79 rfl rfl)
  refine oq_c (b01_of (by have f0 := j_rd ((j_wf js25 rfl 79 rfl rfl) : JC 19802809388197433196274515968 s (pI s25 79 18 (s25.1 25 18))) 25 19 0 1 rfl; omega)) ?_
  exact ⟨(j_wr 0 1 (j_wf js25 rfl 79 rfl rfl) rfl 79 rfl rfl (by have f0 := j_rd ((j_wf js25 rfl 79 rfl rfl) : JC 19802809388197433196274515968 s (pI s25 79 18 (s25.1 25 18))) 25 19 0 1 rfl; omega)), trivial⟩
