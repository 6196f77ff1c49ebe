theorem h_X12_isSetOf (a1 : Int32) {s : Sg} (hR : Rg rM s) : OQ (f_X12_isSetOf a1 s) (fun r9 s9 => JM 0 s s9 ∧ (0 ≤ r9.toInt ∧ r9.toInt ≤ 1) ∧ (r9 = 0 → True) ∧ (¬ r9 = 0 → 0 ≤ (a1).toInt ∧ (a1).toInt ≤ 255)) := by
  have hJ : JM 0 s s := j_refl hR
  unfold f_X12_isSetOf
  refine oq_if (fun c1 => ?_) (fun c1 => ?_)
  · exact ⟨hJ, (by have f0 : (0 : Int32).toInt = 0 := rfl; omega), fun _ => trivial, fun w9 => absurd rfl w9⟩
  · refine oq_if (fun c2 => ?_) (fun c2 => ?_)
    · exact ⟨hJ, (by have f0 : (0 : Int32).toInt = 0 := rfl; omega), fun _ => trivial, fun w9 => absurd rfl w9⟩
    · exact ⟨hJ, (by have f0 : (1 : Int32).toInt = 1 := rfl; omega), fun w9 => absurd w9 (by decide), fun w9 => ⟨(by have f0 : (0 : Int32).toInt = 0 := rfl; have f1 := i_rg a1; have f2 := i_nlt c1; have f3 := i_nle c2; have f4 := i_and (s.1 1 1) ((31 : Int32)) (by decide); have f5 := i_sh (s.1 1 1) (by have f0 := j_rd hJ 1 1 0 8 rfl; omega); have f6 : (1 : Int32).toInt = 1 := rfl; have f7 := j_rd hJ 1 1 0 8 rfl; have f8 : (31 : Int32).toInt = 31 := rfl; omega), (by have f0 := i_rg a1; have f1 : (255 : Int32).toInt = 255 := rfl; have f2 := i_nlt c1; have f3 := i_nle c2; have f4 := i_and (s.1 1 1) ((31 : Int32)) (by decide); have f5 := i_sh (s.1 1 1) (by have f0 := j_rd hJ 1 1 0 8 rfl; omega); have f6 : (0 : Int32).toInt = 0 := rfl; have f7 : (1 : Int32).toInt = 1 := rfl; have f8 := j_rd hJ 1 1 0 8 rfl; have f9 : (31 : Int32).toInt = 31 := rfl; omega)⟩⟩
theorem h_X12_lack_b34 {s0 : Sg} (n : Nat) : ∀ (v1 : Int32) (v2 : Int32) (v3 : Int32) (s : Sg), JM 4194304 s0 s → 0 ≤ v1.toInt ∧ v1.toInt ≤ 255 → 0 ≤ v3.toInt ∧ v3.toInt ≤ 8 → 8 - v3.toInt < (n : Int) → OQ (f_X12_lack_b34 n v1 v2 v3 s) (fun r9 s9 => JM 4194304 s0 s9 ∧ True ∧ (r9 = 0 → True) ∧ (¬ r9 = 0 → True)) := by
  induction n with
  | zero => intro v1 v2 v3 s hJ p_v1 p_v3 hn; exact False.elim (by have g0 := hn; have g1 := p_v1; have g2 := p_v3; have g3 := i_rg v1; have g4 := i_rg v2; have g5 := i_rg v3; omega)
  | succ n ih =>
    intro v1 v2 v3 s hJ p_v1 p_v3 hn
    unfold f_X12_lack_b34
    refine oq_if (fun c1 => ?_) (fun c1 => ?_)
    · refine oq_b (h_X12_gives _ hJ.1) (fun r7 s8 hs8 => ?_)
      have js8 : JM 4194304 s0 s8 := j_call hJ hs8.1 rfl
      exact ⟨js8, trivial, fun _ => trivial, fun _ => trivial⟩
    · refine oq_b (h_X12_isGone _ hJ.1 (by have f0 := p_v3; have f1 := i_rg v3; have f2 := i_nle c1; have f3 := j_rd hJ 1 0 0 8 rfl; omega)) (fun r9 s10 hs10 => ?_)
      have js10 : JM 4194304 s0 s10 := j_call hJ hs10.1 rfl
      refine oq_if (fun c2 => ?_) (fun c2 => ?_)
      · refine oq_b (h_X12_lackOn _ _ js10.1 (by have f0 := p_v3; have f1 := i_rg v3; have f2 := i_nle c1; have f3 := j_rd hJ 1 0 0 8 rfl; omega)) (fun r11 s12 hs12 => ?_)
        have js12 : JM 4194304 s0 s12 := j_call js10 hs12.1 rfl
        exact ih _ _ _ _ js12 (by have f0 := p_v1; have f1 := i_rg v1; omega) (by have f0 := i_add (v3) ((1 : Int32)); have f1 := p_v3; have f2 := i_rg v3; have f3 : (1 : Int32).toInt = 1 := rfl; have f4 := i_nle c1; have f5 := j_rd hJ 1 0 0 8 rfl; omega) (by have g0 := i_add (v2) (r11); have g1 := i_add (v3) ((1 : Int32)); have g2 := p_v1; have g3 := i_rg v1; have g4 := i_rg v2; have g5 := hs12.2.1; have g6 := i_rg r11; have g7 := p_v3; have g8 := i_rg v3; have g9 : (1 : Int32).toInt = 1 := rfl; have g10 := i_nle c1; have g11 := j_rd hJ 1 0 0 8 rfl; have g12 := hn; omega)
      · exact ih _ _ _ _ js10 (by have f0 := p_v1; have f1 := i_rg v1; omega) (by have f0 := i_add (v3) ((1 : Int32)); have f1 := p_v3; have f2 := i_rg v3; have f3 : (1 : Int32).toInt = 1 := rfl; have f4 := i_nle c1; have f5 := j_rd hJ 1 0 0 8 rfl; omega) (by have g0 := i_add (v2) ((0 : Int32)); have g1 := i_add (v3) ((1 : Int32)); have g2 := p_v1; have g3 := i_rg v1; have g4 := i_rg v2; have g5 : (0 : Int32).toInt = 0 := rfl; have g6 := p_v3; have g7 := i_rg v3; have g8 : (1 : Int32).toInt = 1 := rfl; have g9 := i_nle c1; have g10 := j_rd hJ 1 0 0 8 rfl; have g11 := hn; omega)
theorem h_X12_lack (a1 : Int32) {s : Sg} (hR : Rg rM s) : OQ (f_X12_lack a1 s) (fun r9 s9 => JM 4194304 s s9 ∧ True ∧ (r9 = 0 → True) ∧ (¬ r9 = 0 → True)) := by
  have hJ : JM 4194304 s s := j_refl hR
  unfold f_X12_lack
  refine oq_b (h_X12_isSetOf _ hJ.1) (fun r1 s2 hs2 => ?_)
  have js2 : JM 4194304 s s2 := j_call hJ hs2.1 rfl
  refine oq_if (fun c1 => ?_) (fun c1 => ?_)
  · refine oq_b (h_X12_refuse _ js2.1 (by have f0 : (1 : Int32).toInt = 1 := rfl; omega)) (fun r3 s4 hs4 => ?_)
    have js4 : JM 4194304 s s4 := j_call js2 hs4.1 rfl
    exact ⟨js4, trivial, fun w9 => False.elim (by have f0 := hs4.2.1; have f1 := i_rg r3; have f2 := i_eq w9; have f3 : (0 : Int32).toInt = 0 := rfl; omega), fun _ => trivial⟩
  · refine oq_b (h_X12_setOf _ js2.1 (by have f0 : (3 : Int32).toInt = 3 := rfl; omega)) (fun r5 s6 hs6 => ?_)
    have js6 : JM 4194304 s s6 := j_call js2 hs6.1 rfl
    refine oq_if (fun c2 => ?_) (fun c2 => ?_)
    · exact h_X12_lack_b34 BIG _ _ _ _ js6 (by have f0 := i_rg a1; have f1 := (hs2.2.2.2 c1).1; have f2 := (hs2.2.2.2 c1).2; have f3 := i_eq c2; have f4 := i_and (a1) (r5) (by have f0 := hs6.2.1; have f1 := i_rg r5; omega); have f5 : (0 : Int32).toInt = 0 := rfl; have f6 : (255 : Int32).toInt = 255 := rfl; have f7 := hs6.2.1; have f8 := i_rg r5; omega) (by have f0 : (0 : Int32).toInt = 0 := rfl; omega) (by have g0 := i_rg a1; have g1 : (0 : Int32).toInt = 0 := rfl; have g2 := (hs2.2.2.2 c1).1; have g3 := (hs2.2.2.2 c1).2; have g4 := i_eq c2; have g5 := i_and (a1) (r5) (by have f0 := hs6.2.1; have f1 := i_rg r5; omega); have g6 : (255 : Int32).toInt = 255 := rfl; have g7 := hs6.2.1; have g8 := i_rg r5; have g9 : BIG = 4294967296 := rfl; omega)
    · refine oq_b (h_X12_gives _ js6.1) (fun r13 s14 hs14 => ?_)
      have js14 : JM 4194304 s s14 := j_call js6 hs14.1 rfl
      exact ⟨js14, trivial, fun w9 => False.elim (by have f0 := i_rg r13; have f1 := i_eq w9; have f2 := (hs14.2.2.1 w9).1; have f3 := (hs14.2.2.1 w9).2; have f4 : (0 : Int32).toInt = 0 := rfl; have f5 : ((-1) : Int32).toInt = (-1) := rfl; omega), fun _ => trivial⟩
theorem h_X12_lackAt_b17 {s0 : Sg} (v1 : Int32) (v2 : Int32) (t0 : Int32) (s : Sg) (hJ : JM 4194304 s0 s) (p_t0 : 0 ≤ t0.toInt ∧ t0.toInt ≤ 7) (x_1 : (t0.toInt = 1 ∨ (0 ≤ v2.toInt ∧ v2.toInt ≤ 7))) : OQ (f_X12_lackAt_b17 v1 v2 t0 s) (fun r9 s9 => JM 4194304 s0 s9 ∧ True ∧ (r9 = 0 → True) ∧ (¬ r9 = 0 → True)) := by
  unfold f_X12_lackAt_b17
  refine oq_if (fun c1 => ?_) (fun c1 => ?_)
  · refine oq_b (h_X12_lackOn _ _ hJ.1 (by have f0 := i_rg v2; have f1 := x_1; have f2 := i_le c1; have f3 := p_t0; have f4 := i_rg t0; have f5 : (0 : Int32).toInt = 0 := rfl; omega)) (fun r3 s4 hs4 => ?_)
    have js4 : JM 4194304 s0 s4 := j_call hJ hs4.1 rfl
    refine oq_b (h_X12_gives _ js4.1) (fun r5 s6 hs6 => ?_)
    have js6 : JM 4194304 s0 s6 := j_call js4 hs6.1 rfl
    exact ⟨js6, trivial, fun _ => trivial, fun _ => trivial⟩
  · refine oq_b (h_X12_refuse _ hJ.1 (by have f0 := p_t0; have f1 := i_rg t0; have f2 := x_1; have f3 := i_nle c1; have f4 := i_rg v2; have f5 : (0 : Int32).toInt = 0 := rfl; omega)) (fun r7 s8 hs8 => ?_)
    have js8 : JM 4194304 s0 s8 := j_call hJ hs8.1 rfl
    exact ⟨js8, trivial, fun w9 => False.elim (by have f0 := hs8.2.1; have f1 := i_rg r7; have f2 := i_eq w9; have f3 : (0 : Int32).toInt = 0 := rfl; omega), fun _ => trivial⟩
theorem h_X12_lackAt (a1 : Int32) (a2 : Int32) {s : Sg} (hR : Rg rM s) : OQ (f_X12_lackAt a1 a2 s) (fun r9 s9 => JM 4194304 s s9 ∧ True ∧ (r9 = 0 → True) ∧ (¬ r9 = 0 → True)) := by
  have hJ : JM 4194304 s s := j_refl hR
  unfold f_X12_lackAt
  refine oq_b (h_X12_isSetOf _ hJ.1) (fun r1 s2 hs2 => ?_)
  have js2 : JM 4194304 s s2 := j_call hJ hs2.1 rfl
  refine oq_if (fun c1 => ?_) (fun c1 => ?_)
  · exact h_X12_lackAt_b17 _ _ _ _ js2 (by have f0 : (1 : Int32).toInt = 1 := rfl; omega) (by have g0 : (1 : Int32).toInt = 1 := rfl; have g1 := i_rg a2; omega)
  · refine oq_b (h_X12_wrongStep _ js2.1) (fun r9 s10 hs10 => ?_)
    have js10 : JM 4194304 s s10 := j_call js2 hs10.1 rfl
    exact h_X12_lackAt_b17 _ _ _ _ js10 (by have f0 := hs10.2.1; have f1 := i_rg r9; have f2 := hs10.2.1.2; have f3 := i_rg a2; omega) (by have g0 := hs10.2.1; have g1 := i_rg r9; have g2 := hs10.2.1.2; have g3 := i_rg a2; omega)
theorem h_X12_freed (a1 : Int32) {s : Sg} (hR : Rg rM s) : OQ (f_X12_freed a1 s) (fun r9 s9 => JM 17592190238720 s s9 ∧ True ∧ (r9 = 0 → 0 ≤ (a1).toInt ∧ (a1).toInt ≤ 7) ∧ (¬ r9 = 0 → True)) := by
  have hJ : JM 17592190238720 s s := j_refl hR
  unfold f_X12_freed
  refine oq_b (h_X12_isQuarrel _ hJ.1) (fun r1 s2 hs2 => ?_)
  have js2 : JM 17592190238720 s s2 := j_call hJ hs2.1 rfl
  refine oq_if (fun c1 => ?_) (fun c1 => ?_)
  · refine oq_b (h_X12_refuse _ js2.1 (by have f0 : (1 : Int32).toInt = 1 := rfl; omega)) (fun r3 s4 hs4 => ?_)
    have js4 : JM 17592190238720 s s4 := j_call js2 hs4.1 rfl
    exact ⟨js4, trivial, fun w9 => False.elim (by have f0 := hs4.2.1; have f1 := i_rg r3; have f2 := i_eq w9; have f3 : (0 : Int32).toInt = 0 := rfl; omega), fun _ => trivial⟩
  · refine oq_b (h_X12_setOf _ js2.1 (by have f0 : (0 : Int32).toInt = 0 := rfl; omega)) (fun r5 s6 hs6 => ?_)
    have js6 : JM 17592190238720 s s6 := j_call js2 hs6.1 rfl
    refine oq_b (h_X12_setOf _ ((j_wf js6 rfl 44 rfl rfl) : JM 17592190238720 s (pI s6 0 24 a1)).1 (by have f0 : (0 : Int32).toInt = 0 := rfl; omega)) (fun r7 s8 hs8 => ?_)
    have js8 : JM 17592190238720 s s8 := j_call ((j_wf js6 rfl 44 rfl rfl) : JM 17592190238720 s (pI s6 0 24 a1)) hs8.1 rfl
    refine oq_b (h_X12_gives _ ((j_wf js8 rfl 44 rfl rfl) : JM 17592190238720 s (pI s8 0 24 (-1))).1) (fun r9 s10 hs10 => ?_)
    have js10 : JM 17592190238720 s s10 := j_call ((j_wf js8 rfl 44 rfl rfl) : JM 17592190238720 s (pI s8 0 24 (-1))) hs10.1 rfl
    exact ⟨js10, trivial, fun w9 => ⟨(by have f0 : (0 : Int32).toInt = 0 := rfl; have f1 := i_rg a1; have f2 := (hs2.2.2.2 c1).1; have f3 := (hs2.2.2.2 c1).2; have f4 := (hs10.2.2.1 w9).1; have f5 := i_and2 (r7) (r5 ^^^ (-1)) (by have f0 := hs8.2.1; have f1 := i_rg r7; omega); have f6 := i_and (a1) ((31 : Int32)) (by decide); have f7 := i_sh (a1) (by have f0 := i_rg a1; have f1 := (hs2.2.2.2 c1).1; have f2 := (hs2.2.2.2 c1).2; have f3 : (0 : Int32).toInt = 0 := rfl; have f4 : (7 : Int32).toInt = 7 := rfl; omega); have f8 := i_and2 (r7 &&& (r5 ^^^ (-1))) (((1 : Int32) <<< (a1 &&& 31)) ^^^ (-1)) (by have f0 := i_and2 (r7) (r5 ^^^ (-1)) (by have f0 := hs8.2.1; have f1 := i_rg r7; omega); have f1 := hs8.2.1; have f2 := i_rg r7; have f3 := hs6.2.1; have f4 := i_rg r5; have f5 : ((-1) : Int32).toInt = (-1) := rfl; omega); have f9 := (hs10.2.2.1 w9).2; have f10 : (7 : Int32).toInt = 7 := rfl; have f11 := hs8.2.1; have f12 := i_rg r7; have f13 := hs6.2.1; have f14 := i_rg r5; have f15 : ((-1) : Int32).toInt = (-1) := rfl; have f16 : (1 : Int32).toInt = 1 := rfl; have f17 : (31 : Int32).toInt = 31 := rfl; omega), (by have f0 := i_rg a1; have f1 : (7 : Int32).toInt = 7 := rfl; have f2 := (hs2.2.2.2 c1).1; have f3 := (hs2.2.2.2 c1).2; have f4 := (hs10.2.2.1 w9).1; have f5 := i_and2 (r7) (r5 ^^^ (-1)) (by have f0 := hs8.2.1; have f1 := i_rg r7; omega); have f6 := i_and (a1) ((31 : Int32)) (by decide); have f7 := i_sh (a1) (by have f0 := i_rg a1; have f1 := (hs2.2.2.2 c1).1; have f2 := (hs2.2.2.2 c1).2; have f3 : (0 : Int32).toInt = 0 := rfl; have f4 : (7 : Int32).toInt = 7 := rfl; omega); have f8 := i_and2 (r7 &&& (r5 ^^^ (-1))) (((1 : Int32) <<< (a1 &&& 31)) ^^^ (-1)) (by have f0 := i_and2 (r7) (r5 ^^^ (-1)) (by have f0 := hs8.2.1; have f1 := i_rg r7; omega); have f1 := hs8.2.1; have f2 := i_rg r7; have f3 := hs6.2.1; have f4 := i_rg r5; have f5 : ((-1) : Int32).toInt = (-1) := rfl; omega); have f9 := (hs10.2.2.1 w9).2; have f10 : (0 : Int32).toInt = 0 := rfl; have f11 := hs8.2.1; have f12 := i_rg r7; have f13 := hs6.2.1; have f14 := i_rg r5; have f15 : ((-1) : Int32).toInt = (-1) := rfl; have f16 : (1 : Int32).toInt = 1 := rfl; have f17 : (31 : Int32).toInt = 31 := rfl; omega)⟩, fun _ => trivial⟩
theorem h_X12_cost (a1 : Int32) {s : Sg} (hR : Rg rM s) : OQ (f_X12_cost a1 s) (fun r9 s9 => JM 140737492549632 s s9 ∧ True ∧ (r9 = 0 → True) ∧ (¬ r9 = 0 → True)) := by
  have hJ : JM 140737492549632 s s := j_refl hR
  unfold f_X12_cost
  refine oq_b (h_X12_isFrom _ _ _ hJ.1) (fun r1 s2 hs2 => ?_)
  have js2 : JM 140737492549632 s s2 := j_call hJ hs2.1 rfl
  refine oq_if (fun c1 => ?_) (fun c1 => ?_)
  · refine oq_b (h_X12_refuse _ js2.1 (by have f0 : (1 : Int32).toInt = 1 := rfl; omega)) (fun r3 s4 hs4 => ?_)
    have js4 : JM 140737492549632 s s4 := j_call js2 hs4.1 rfl
    exact ⟨js4, trivial, fun w9 => False.elim (by have f0 := hs4.2.1; have f1 := i_rg r3; have f2 := i_eq w9; have f3 : (0 : Int32).toInt = 0 := rfl; omega), fun _ => trivial⟩
  · refine oq_b (h_X12_costOf _ js2.1) (fun r5 s6 hs6 => ?_)
    have js6 : JM 140737492549632 s s6 := j_call js2 hs6.1 rfl
    refine oq_b (h_X12_orNone _ js6.1) (fun r7 s8 hs8 => ?_)
    have js8 : JM 140737492549632 s s8 := j_call js6 hs8.1 rfl
    exact ⟨js8, trivial, fun _ => trivial, fun _ => trivial⟩
theorem h_X12_dearest (a1 : Int32) {s : Sg} (hR : Rg rM s) : OQ (f_X12_dearest a1 s) (fun r9 s9 => JM 140737492549632 s s9 ∧ True ∧ (r9 = 0 → True) ∧ (¬ r9 = 0 → True)) := by
  have hJ : JM 140737492549632 s s := j_refl hR
  unfold f_X12_dearest
  refine oq_b (h_X12_isFrom _ _ _ hJ.1) (fun r1 s2 hs2 => ?_)
  have js2 : JM 140737492549632 s s2 := j_call hJ hs2.1 rfl
  refine oq_if (fun c1 => ?_) (fun c1 => ?_)
  · refine oq_b (h_X12_refuse _ js2.1 (by have f0 : (1 : Int32).toInt = 1 := rfl; omega)) (fun r3 s4 hs4 => ?_)
    have js4 : JM 140737492549632 s s4 := j_call js2 hs4.1 rfl
    exact ⟨js4, trivial, fun w9 => False.elim (by have f0 := hs4.2.1; have f1 := i_rg r3; have f2 := i_eq w9; have f3 : (0 : Int32).toInt = 0 := rfl; omega), fun _ => trivial⟩
  · refine oq_b (h_X12_costOf _ js2.1) (fun r5 s6 hs6 => ?_)
    have js6 : JM 140737492549632 s s6 := j_call js2 hs6.1 rfl
    refine oq_if (fun c2 => ?_) (fun c2 => ?_)
    · refine oq_b (h_X12_refuse _ js6.1 (by have f0 : (6 : Int32).toInt = 6 := rfl; omega)) (fun r7 s8 hs8 => ?_)
      have js8 : JM 140737492549632 s s8 := j_call js6 hs8.1 rfl
      exact ⟨js8, trivial, fun w9 => False.elim (by have f0 := hs8.2.1; have f1 := i_rg r7; have f2 := i_eq w9; have f3 : (0 : Int32).toInt = 0 := rfl; omega), fun _ => trivial⟩
    · refine oq_b (h_X12_gives _ js6.1) (fun r9 s10 hs10 => ?_)
      have js10 : JM 140737492549632 s s10 := j_call js6 hs10.1 rfl
      exact ⟨js10, trivial, fun _ => trivial, fun _ => trivial⟩
theorem h_X12_quiet_b33 {s0 : Sg} (v1 : Int32) (v2 : Int32) (v3 : Int32) (t0 : Int32) (s : Sg) (hJ : JM 4194304 s0 s) (p_t0 : 0 ≤ t0.toInt ∧ t0.toInt ≤ 7) (x_1 : (t0.toInt = 1 ∨ (0 ≤ v1.toInt ∧ v1.toInt ≤ 7))) : OQ (f_X12_quiet_b33 v1 v2 v3 t0 s) (fun r9 s9 => JM 4194304 s0 s9 ∧ True ∧ (r9 = 0 → True) ∧ (¬ r9 = 0 → True)) := by
  unfold f_X12_quiet_b33
  refine oq_if (fun c1 => ?_) (fun c1 => ?_)
  · refine oq_b (h_X12_houseRow _ hJ.1 (by have f0 := i_rg v1; have f1 := x_1; have f2 := i_le c1; have f3 := p_t0; have f4 := i_rg t0; have f5 : (0 : Int32).toInt = 0 := rfl; omega)) (fun r3 s4 hs4 => ?_)
    have js4 : JM 4194304 s0 s4 := j_call hJ hs4.1 rfl
    refine oq_c (inr_of (by have f0 := hs4.2.1; have f1 := i_rg r3; have f2 := hs4.2.1.2; have f3 := i_rg v1; have f4 := x_1; have f5 := i_le c1; have f6 := p_t0; have f7 := i_rg t0; have f8 : (0 : Int32).toInt = 0 := rfl; omega)) ?_
    refine oq_b (h_X12_gives _ js4.1) (fun r6 s7 hs7 => ?_)
    have js7 : JM 4194304 s0 s7 := j_call js4 hs7.1 rfl
    exact ⟨js7, trivial, fun _ => trivial, fun _ => trivial⟩
  · refine oq_b (h_X12_refuse _ hJ.1 (by have f0 := p_t0; have f1 := i_rg t0; have f2 := x_1; have f3 := i_nle c1; have f4 := i_rg v1; have f5 : (0 : Int32).toInt = 0 := rfl; omega)) (fun r8 s9 hs9 => ?_)
    have js9 : JM 4194304 s0 s9 := j_call hJ hs9.1 rfl
    exact ⟨js9, trivial, fun w9 => False.elim (by have f0 := hs9.2.1; have f1 := i_rg r8; have f2 := i_eq w9; have f3 : (0 : Int32).toInt = 0 := rfl; omega), fun _ => trivial⟩
theorem h_X12_quiet_b24 {s0 : Sg} (v1 : Int32) (v2 : Int32) (v3 : Int32) (s : Sg) (hJ : JM 4194304 s0 s) : OQ (f_X12_quiet_b24 v1 v2 v3 s) (fun r9 s9 => JM 4194304 s0 s9 ∧ True ∧ (r9 = 0 → True) ∧ (¬ r9 = 0 → True)) := by
  unfold f_X12_quiet_b24
  exact h_X12_quiet_b33 _ _ _ _ _ hJ (by have f0 : (1 : Int32).toInt = 1 := rfl; omega) (by have g0 : (1 : Int32).toInt = 1 := rfl; have g1 := i_rg v1; omega)
theorem h_X12_quiet (a1 : Int32) (a2 : Int32) (a3 : Int32) {s : Sg} (hR : Rg rM s) : OQ (f_X12_quiet a1 a2 a3 s) (fun r9 s9 => JM 4194304 s s9 ∧ True ∧ (r9 = 0 → True) ∧ (¬ r9 = 0 → True)) := by
  have hJ : JM 4194304 s s := j_refl hR
  unfold f_X12_quiet
  refine oq_b (h_X12_isFrom _ _ _ hJ.1) (fun r1 s2 hs2 => ?_)
  have js2 : JM 4194304 s s2 := j_call hJ hs2.1 rfl
  refine oq_if (fun c1 => ?_) (fun c1 => ?_)
  · exact h_X12_quiet_b24 _ _ _ _ js2
  · refine oq_b (h_X12_isFrom _ _ _ js2.1) (fun r10 s11 hs11 => ?_)
    have js11 : JM 4194304 s s11 := j_call js2 hs11.1 rfl
    refine oq_if (fun c2 => ?_) (fun c2 => ?_)
    · exact h_X12_quiet_b24 _ _ _ _ js11
    · refine oq_b (h_X12_wrongStep _ js11.1) (fun r12 s13 hs13 => ?_)
      have js13 : JM 4194304 s s13 := j_call js11 hs13.1 rfl
      exact h_X12_quiet_b33 _ _ _ _ _ js13 (by have f0 := hs13.2.1; have f1 := i_rg r12; have f2 := hs13.2.1.2; have f3 := i_rg a1; omega) (by have g0 := hs13.2.1; have g1 := i_rg r12; have g2 := hs13.2.1.2; have g3 := i_rg a1; omega)
theorem h_X12_explains_b77 {s0 : Sg} (k_41 : Int32 → Int32 → Sg → Option (Int32 × Sg)) (m_41 : Nat) (hk_41 : ∀ (v2 : Int32) (v4 : Int32) (s : Sg), JM 512 s0 s → 0 ≤ v2.toInt ∧ v2.toInt ≤ 3 → 0 ≤ v4.toInt ∧ v4.toInt ≤ 8 → 8 - v4.toInt < (m_41 : Int) → OQ (k_41 v2 v4 s) (fun r9 s9 => JM 512 s0 s9 ∧ (0 ≤ r9.toInt ∧ r9.toInt ≤ 1) ∧ (r9 = 0 → True) ∧ (¬ r9 = 0 → True))) (n : Nat) : ∀ (v2 : Int32) (v4 : Int32) (v5 : Int32) (v6 : Int32) (s : Sg), JM 512 s0 s → 0 ≤ v2.toInt ∧ v2.toInt ≤ 3 → 0 ≤ v4.toInt ∧ v4.toInt ≤ 7 → 0 ≤ v6.toInt ∧ v6.toInt ≤ 8 → 8 - v4.toInt < (m_41 : Int) + 1 → 8 - v6.toInt < (n : Int) → OQ (f_X12_explains_b77 k_41 n v2 v4 v5 v6 s) (fun r9 s9 => JM 512 s0 s9 ∧ (0 ≤ r9.toInt ∧ r9.toInt ≤ 1) ∧ (r9 = 0 → True) ∧ (¬ r9 = 0 → True)) := by
  induction n with
  | zero => intro v2 v4 v5 v6 s hJ p_v2 p_v4 p_v6 hm_41 hn; exact False.elim (by have g0 := hn; have g1 := p_v2; have g2 := p_v4; have g3 := p_v6; have g4 := i_rg v2; have g5 := i_rg v4; have g6 := i_rg v5; have g7 := i_rg v6; omega)
  | succ n ih =>
    intro v2 v4 v5 v6 s hJ p_v2 p_v4 p_v6 hm_41 hn
    unfold f_X12_explains_b77
    refine oq_if (fun c1 => ?_) (fun c1 => ?_)
    · refine oq_if (fun c2 => ?_) (fun c2 => ?_)
      · exact hk_41 _ _ _ hJ (by have f0 := p_v2; have f1 := i_rg v2; omega) (by have f0 := i_add (v4) ((1 : Int32)); have f1 := p_v4; have f2 := i_rg v4; have f3 : (1 : Int32).toInt = 1 := rfl; have f4 := i_lt c1; have f5 := p_v6; have f6 := i_rg v6; omega) (by have g0 := i_add (v4) ((1 : Int32)); have g1 := p_v2; have g2 := i_rg v2; have g3 := p_v4; have g4 := i_rg v4; have g5 : (1 : Int32).toInt = 1 := rfl; have g6 := i_lt c1; have g7 := p_v6; have g8 := i_rg v6; have g9 := hm_41; omega)
      · exact ⟨hJ, (by have f0 : (0 : Int32).toInt = 0 := rfl; omega), fun _ => trivial, fun w9 => absurd rfl w9⟩
    · refine oq_if (fun c3 => ?_) (fun c3 => ?_)
      · refine oq_if (fun c4 => ?_) (fun c4 => ?_)
        · exact hk_41 _ _ _ hJ (by have f0 := p_v2; have f1 := i_rg v2; omega) (by have f0 := i_add (v4) ((1 : Int32)); have f1 := p_v4; have f2 := i_rg v4; have f3 : (1 : Int32).toInt = 1 := rfl; have f4 := i_nlt c1; have f5 := i_le c3; have f6 := p_v6; have f7 := i_rg v6; have f8 := j_rd hJ 1 0 0 8 rfl; omega) (by have g0 := i_add (v4) ((1 : Int32)); have g1 := p_v2; have g2 := i_rg v2; have g3 := p_v4; have g4 := i_rg v4; have g5 : (1 : Int32).toInt = 1 := rfl; have g6 := i_nlt c1; have g7 := i_le c3; have g8 := p_v6; have g9 := i_rg v6; have g10 := j_rd hJ 1 0 0 8 rfl; have g11 := hm_41; omega)
        · exact ⟨hJ, (by have f0 : (0 : Int32).toInt = 0 := rfl; omega), fun _ => trivial, fun w9 => absurd rfl w9⟩
      · refine oq_c (inr_of (by have f0 := p_v6; have f1 := i_rg v6; have f2 := i_nlt c1; have f3 := i_add (v4) ((1 : Int32)); have f4 := i_nle c3; have f5 := p_v4; have f6 := i_rg v4; have f7 : (1 : Int32).toInt = 1 := rfl; have f8 := j_rd hJ 1 0 0 8 rfl; omega)) ?_
        refine oq_n (fun x5 ex5 => ?_)
        refine oq_n (fun s6 es6 => ?_)
        have js6 : JM 512 s0 s6 := by rw [es6]; exact (j_wf hJ rfl 9 rfl rfl)
        exact ih _ _ _ _ _ js6 (by have f0 := p_v2; have f1 := i_rg v2; omega) (by have f0 := p_v4; have f1 := i_rg v4; have f2 := i_nlt c1; have f3 := i_add (v4) ((1 : Int32)); have f4 := i_nle c3; have f5 : (1 : Int32).toInt = 1 := rfl; have f6 := p_v6; have f7 := i_rg v6; have f8 := j_rd hJ 1 0 0 8 rfl; omega) (by have f0 := i_add (v6) ((1 : Int32)); have f1 := p_v6; have f2 := i_rg v6; have f3 : (1 : Int32).toInt = 1 := rfl; have f4 := i_nlt c1; have f5 := i_add (v4) ((1 : Int32)); have f6 := i_nle c3; have f7 := p_v4; have f8 := i_rg v4; have f9 := j_rd hJ 1 0 0 8 rfl; omega) (by have g0 := i_sub (v5) (x5); have g1 := i_add (v6) ((1 : Int32)); have g2 := p_v2; have g3 := i_rg v2; have g4 := p_v4; have g5 := i_rg v4; have g6 := i_rg v5; have g7 := i_eq ex5; have g8 := ite_lt (s.1 9 v6.toNatClampNeg) (v5) (s.1 9 v6.toNatClampNeg) (v5); have g9 := i_rg x5; have g10 := p_v6; have g11 := i_rg v6; have g12 : (1 : Int32).toInt = 1 := rfl; have g13 := i_rg (s.1 9 v6.toNatClampNeg); have g14 := i_nlt c1; have g15 := i_add (v4) ((1 : Int32)); have g16 := i_nle c3; have g17 := j_rd hJ 1 0 0 8 rfl; have g18 := hm_41; omega) (by have g0 := i_sub (v5) (x5); have g1 := i_add (v6) ((1 : Int32)); have g2 := p_v2; have g3 := i_rg v2; have g4 := p_v4; have g5 := i_rg v4; have g6 := i_rg v5; have g7 := i_eq ex5; have g8 := ite_lt (s.1 9 v6.toNatClampNeg) (v5) (s.1 9 v6.toNatClampNeg) (v5); have g9 := i_rg x5; have g10 := p_v6; have g11 := i_rg v6; have g12 : (1 : Int32).toInt = 1 := rfl; have g13 := i_rg (s.1 9 v6.toNatClampNeg); have g14 := i_nlt c1; have g15 := i_add (v4) ((1 : Int32)); have g16 := i_nle c3; have g17 := j_rd hJ 1 0 0 8 rfl; have g18 := hn; omega)
theorem h_X12_explains_b41 {s0 : Sg} (n : Nat) : ∀ (v2 : Int32) (v4 : Int32) (s : Sg), JM 512 s0 s → 0 ≤ v2.toInt ∧ v2.toInt ≤ 3 → 0 ≤ v4.toInt ∧ v4.toInt ≤ 8 → 8 - v4.toInt < (n : Int) → OQ (f_X12_explains_b41 n v2 v4 s) (fun r9 s9 => JM 512 s0 s9 ∧ (0 ≤ r9.toInt ∧ r9.toInt ≤ 1) ∧ (r9 = 0 → True) ∧ (¬ r9 = 0 → True)) := by
  induction n with
  | zero => intro v2 v4 s hJ p_v2 p_v4 hn; exact False.elim (by have g0 := hn; have g1 := p_v2; have g2 := p_v4; have g3 := i_rg v2; have g4 := i_rg v4; omega)
  | succ n ih =>
    intro v2 v4 s hJ p_v2 p_v4 hn
    unfold f_X12_explains_b41
    refine oq_if (fun c1 => ?_) (fun c1 => ?_)
    · exact ⟨hJ, (by have f0 : (1 : Int32).toInt = 1 := rfl; omega), fun w9 => absurd w9 (by decide), fun _ => trivial⟩
    · refine oq_c (inr_of (by have f0 := i_mul ((60 : Int32)) (v2); have f1 := i_add (60 * v2) (v4); have f2 : (60 : Int32).toInt = 60 := rfl; have f3 := p_v2; have f4 := i_rg v2; have f5 := p_v4; have f6 := i_rg v4; have f7 := i_nle c1; have f8 := j_rd hJ 1 0 0 8 rfl; omega)) ?_
      refine oq_n (fun x2 ex2 => ?_)
      refine oq_n (fun x3 ex3 => ?_)
      exact h_X12_explains_b77 _ n ih BIG _ _ _ _ _ hJ (by have f0 := p_v2; have f1 := i_rg v2; omega) (by have f0 := p_v4; have f1 := i_rg v4; have f2 := i_nle c1; have f3 := j_rd hJ 1 0 0 8 rfl; omega) (by have f0 := i_eq ex3; have f1 := i_sub (v4) ((1 : Int32)); have f2 := ite_lt ((0 : Int32)) (v4 - 1) (v4 - 1) ((0 : Int32)); have f3 := i_rg x3; have f4 : (0 : Int32).toInt = 0 := rfl; have f5 := p_v4; have f6 := i_rg v4; have f7 : (1 : Int32).toInt = 1 := rfl; have f8 := i_nle c1; have f9 := j_rd hJ 1 0 0 8 rfl; omega) (by have g0 := p_v2; have g1 := i_rg v2; have g2 := p_v4; have g3 := i_rg v4; have g4 := i_eq ex2; have g5 := i_rg x2; have g6 := i_eq ex3; have g7 := i_sub (v4) ((1 : Int32)); have g8 := ite_lt ((0 : Int32)) (v4 - 1) (v4 - 1) ((0 : Int32)); have g9 := i_rg x3; have g10 : (0 : Int32).toInt = 0 := rfl; have g11 : (1 : Int32).toInt = 1 := rfl; have g12 := i_nle c1; have g13 := j_rd hJ 1 0 0 8 rfl; have g14 := hn; omega) (by have g0 := p_v2; have g1 := i_rg v2; have g2 := p_v4; have g3 := i_rg v4; have g4 := i_eq ex2; have g5 := i_rg x2; have g6 := i_eq ex3; have g7 := i_sub (v4) ((1 : Int32)); have g8 := ite_lt ((0 : Int32)) (v4 - 1) (v4 - 1) ((0 : Int32)); have g9 := i_rg x3; have g10 : (0 : Int32).toInt = 0 := rfl; have g11 : (1 : Int32).toInt = 1 := rfl; have g12 := i_nle c1; have g13 := j_rd hJ 1 0 0 8 rfl; have g14 : BIG = 4294967296 := rfl; omega)
theorem h_X12_explains_b3 {s0 : Sg} (n : Nat) : ∀ (v1 : Int32) (v2 : Int32) (v3 : Int32) (v4 : Int32) (s : Sg), JM 512 s0 s → 0 ≤ v1.toInt ∧ v1.toInt ≤ 255 → 0 ≤ v2.toInt ∧ v2.toInt ≤ 3 → 0 ≤ v4.toInt ∧ v4.toInt ≤ 8 → 8 - v4.toInt < (n : Int) → OQ (f_X12_explains_b3 n v1 v2 v3 v4 s) (fun r9 s9 => JM 512 s0 s9 ∧ (0 ≤ r9.toInt ∧ r9.toInt ≤ 1) ∧ (r9 = 0 → True) ∧ (¬ r9 = 0 → True)) := by
  induction n with
  | zero => intro v1 v2 v3 v4 s hJ p_v1 p_v2 p_v4 hn; exact False.elim (by have g0 := hn; have g1 := p_v1; have g2 := p_v2; have g3 := p_v4; have g4 := i_rg v1; have g5 := i_rg v2; have g6 := i_rg v3; have g7 := i_rg v4; omega)
  | succ n ih =>
    intro v1 v2 v3 v4 s hJ p_v1 p_v2 p_v4 hn
    unfold f_X12_explains_b3
    refine oq_if (fun c1 => ?_) (fun c1 => ?_)
    · exact h_X12_explains_b41 BIG _ _ _ hJ (by have f0 := p_v2; have f1 := i_rg v2; omega) (by have f0 : (0 : Int32).toInt = 0 := rfl; omega) (by have g0 := p_v2; have g1 := i_rg v2; have g2 : (0 : Int32).toInt = 0 := rfl; have g3 : BIG = 4294967296 := rfl; omega)
    · refine oq_if (fun c2 => ?_) (fun c2 => ?_)
      · refine oq_c (inr_of (by have f0 := p_v4; have f1 := i_rg v4; have f2 := i_nle c1; have f3 := i_eq c2; have f4 := i_and (v4) ((31 : Int32)) (by decide); have f5 := i_and (v1 >>> (v4 &&& 31)) ((1 : Int32)) (by decide); have f6 : (8 : Int32).toInt = 8 := rfl; have f7 := p_v1; have f8 := i_rg v1; have f9 : (31 : Int32).toInt = 31 := rfl; have f10 : (1 : Int32).toInt = 1 := rfl; omega)) ?_
        exact ih _ _ _ _ _ (j_wf hJ rfl 9 rfl rfl) (by have f0 := p_v1; have f1 := i_rg v1; have f2 := i_eq c2; have f3 := i_and (v4) ((31 : Int32)) (by decide); have f4 := i_and (v1 >>> (v4 &&& 31)) ((1 : Int32)) (by decide); have f5 := p_v4; have f6 := i_rg v4; have f7 : (31 : Int32).toInt = 31 := rfl; have f8 : (1 : Int32).toInt = 1 := rfl; have f9 := i_nle c1; have f10 : (8 : Int32).toInt = 8 := rfl; omega) (by have f0 := p_v2; have f1 := i_rg v2; omega) (by have f0 := i_add (v4) ((1 : Int32)); have f1 := p_v4; have f2 := i_rg v4; have f3 : (1 : Int32).toInt = 1 := rfl; have f4 := i_nle c1; have f5 := i_eq c2; have f6 := i_and (v4) ((31 : Int32)) (by decide); have f7 := i_and (v1 >>> (v4 &&& 31)) ((1 : Int32)) (by decide); have f8 : (8 : Int32).toInt = 8 := rfl; have f9 := p_v1; have f10 := i_rg v1; have f11 : (31 : Int32).toInt = 31 := rfl; omega) (by have g0 := i_add (v4) ((1 : Int32)); have g1 := p_v1; have g2 := i_rg v1; have g3 := p_v2; have g4 := i_rg v2; have g5 := i_rg v3; have g6 := p_v4; have g7 := i_rg v4; have g8 : (1 : Int32).toInt = 1 := rfl; have g9 := i_nle c1; have g10 := i_eq c2; have g11 := i_and (v4) ((31 : Int32)) (by decide); have g12 := i_and (v1 >>> (v4 &&& 31)) ((1 : Int32)) (by decide); have g13 : (8 : Int32).toInt = 8 := rfl; have g14 : (31 : Int32).toInt = 31 := rfl; have g15 := hn; omega)
      · refine oq_c (inr_of (by have f0 := p_v4; have f1 := i_rg v4; have f2 := i_nle c1; have f3 := i_ne c2; have f4 := i_and (v4) ((31 : Int32)) (by decide); have f5 := i_and (v1 >>> (v4 &&& 31)) ((1 : Int32)) (by decide); have f6 : (8 : Int32).toInt = 8 := rfl; have f7 := p_v1; have f8 := i_rg v1; have f9 : (31 : Int32).toInt = 31 := rfl; have f10 : (1 : Int32).toInt = 1 := rfl; omega)) ?_
        exact ih _ _ _ _ _ (j_wf hJ rfl 9 rfl rfl) (by have f0 := p_v1; have f1 := i_rg v1; have f2 := i_ne c2; have f3 := i_and (v4) ((31 : Int32)) (by decide); have f4 := i_and (v1 >>> (v4 &&& 31)) ((1 : Int32)) (by decide); have f5 := p_v4; have f6 := i_rg v4; have f7 : (31 : Int32).toInt = 31 := rfl; have f8 : (1 : Int32).toInt = 1 := rfl; have f9 := i_nle c1; have f10 : (8 : Int32).toInt = 8 := rfl; omega) (by have f0 := p_v2; have f1 := i_rg v2; omega) (by have f0 := i_add (v4) ((1 : Int32)); have f1 := p_v4; have f2 := i_rg v4; have f3 : (1 : Int32).toInt = 1 := rfl; have f4 := i_nle c1; have f5 := i_ne c2; have f6 := i_and (v4) ((31 : Int32)) (by decide); have f7 := i_and (v1 >>> (v4 &&& 31)) ((1 : Int32)) (by decide); have f8 : (8 : Int32).toInt = 8 := rfl; have f9 := p_v1; have f10 := i_rg v1; have f11 : (31 : Int32).toInt = 31 := rfl; omega) (by have g0 := i_add (v4) ((1 : Int32)); have g1 := p_v1; have g2 := i_rg v1; have g3 := p_v2; have g4 := i_rg v2; have g5 := i_rg v3; have g6 := p_v4; have g7 := i_rg v4; have g8 : (1 : Int32).toInt = 1 := rfl; have g9 := i_nle c1; have g10 := i_ne c2; have g11 := i_and (v4) ((31 : Int32)) (by decide); have g12 := i_and (v1 >>> (v4 &&& 31)) ((1 : Int32)) (by decide); have g13 : (8 : Int32).toInt = 8 := rfl; have g14 : (31 : Int32).toInt = 31 := rfl; have g15 := hn; omega)
theorem h_X12_explains (a1 : Int32) (a2 : Int32) (a3 : Int32) {s : Sg} (hR : Rg rM s) (p_a1 : 0 ≤ a1.toInt ∧ a1.toInt ≤ 255) (p_a2 : 0 ≤ a2.toInt ∧ a2.toInt ≤ 3) : OQ (f_X12_explains a1 a2 a3 s) (fun r9 s9 => JM 512 s s9 ∧ (0 ≤ r9.toInt ∧ r9.toInt ≤ 1) ∧ (r9 = 0 → True) ∧ (¬ r9 = 0 → True)) := by
  have hJ : JM 512 s s := j_refl hR
  unfold f_X12_explains
  exact h_X12_explains_b3 BIG _ _ _ _ _ hJ (by have f0 := p_a1; have f1 := i_rg a1; omega) (by have f0 := p_a2; have f1 := i_rg a2; omega) (by have f0 : (0 : Int32).toInt = 0 := rfl; omega) (by have g0 := p_a1; have g1 := i_rg a1; have g2 := p_a2; have g3 := i_rg a2; have g4 := i_rg a3; have g5 : (0 : Int32).toInt = 0 := rfl; have g6 : BIG = 4294967296 := rfl; omega)
theorem h_X12_who_b154 {s0 : Sg} (k_124 : Int32 → Int32 → Int32 → Int32 → Sg → Option (Int32 × Sg)) (m_124 : Nat) (hk_124 : ∀ (v1 : Int32) (v2 : Int32) (v3 : Int32) (v4 : Int32) (s : Sg), JM 4194816 s0 s → 0 ≤ v1.toInt ∧ v1.toInt ≤ 3 → (-1) ≤ v3.toInt ∧ v3.toInt ≤ 255 → 0 ≤ v4.toInt ∧ v4.toInt ≤ 300 → 300 - v4.toInt < (m_124 : Int) → OQ (k_124 v1 v2 v3 v4 s) (fun r9 s9 => JM 4194816 s0 s9 ∧ True ∧ (r9 = 0 → True) ∧ (¬ r9 = 0 → True))) (v1 : Int32) (v2 : Int32) (v3 : Int32) (v4 : Int32) (s : Sg) (hJ : JM 4194816 s0 s) (p_v1 : 0 ≤ v1.toInt ∧ v1.toInt ≤ 3) (p_v3 : (-1) ≤ v3.toInt ∧ v3.toInt ≤ 255) (p_v4 : 0 ≤ v4.toInt ∧ v4.toInt ≤ 255) (hm_124 : 300 - v4.toInt < (m_124 : Int) + 1) : OQ (f_X12_who_b154 k_124 v1 v2 v3 v4 s) (fun r9 s9 => JM 4194816 s0 s9 ∧ True ∧ (r9 = 0 → True) ∧ (¬ r9 = 0 → True)) := by
  unfold f_X12_who_b154
  refine oq_b (h_X12_explains _ _ _ hJ.1 (by have f0 := p_v4; have f1 := i_rg v4; omega) (by have f0 := p_v1; have f1 := i_rg v1; omega)) (fun r14 s15 hs15 => ?_)
  have js15 : JM 4194816 s0 s15 := j_call hJ hs15.1 rfl
  refine oq_if (fun c1 => ?_) (fun c1 => ?_)
  · exact hk_124 _ _ _ _ _ js15 (by have f0 := p_v1; have f1 := i_rg v1; omega) (by have f0 := p_v3; have f1 := i_rg v3; omega) (by have f0 := i_add (v4) ((1 : Int32)); have f1 := p_v4; have f2 := i_rg v4; have f3 : (1 : Int32).toInt = 1 := rfl; omega) (by have g0 := i_add (v4) ((1 : Int32)); have g1 := p_v1; have g2 := i_rg v1; have g3 := i_rg v2; have g4 := p_v3; have g5 := i_rg v3; have g6 := p_v4; have g7 := i_rg v4; have g8 : (1 : Int32).toInt = 1 := rfl; have g9 := hm_124; omega)
  · exact hk_124 _ _ _ _ _ js15 (by have f0 := p_v1; have f1 := i_rg v1; omega) (by have f0 := p_v4; have f1 := i_rg v4; omega) (by have f0 := i_add (v4) ((1 : Int32)); have f1 := p_v4; have f2 := i_rg v4; have f3 : (1 : Int32).toInt = 1 := rfl; omega) (by have g0 := i_add (v4) ((1 : Int32)); have g1 := p_v1; have g2 := i_rg v1; have g3 := i_rg v2; have g4 := p_v4; have g5 := i_rg v4; have g6 : (1 : Int32).toInt = 1 := rfl; have g7 := hm_124; omega)
theorem h_X12_who_b124 {s0 : Sg} (n : Nat) : ∀ (v1 : Int32) (v2 : Int32) (v3 : Int32) (v4 : Int32) (s : Sg), JM 4194816 s0 s → 0 ≤ v1.toInt ∧ v1.toInt ≤ 3 → (-1) ≤ v3.toInt ∧ v3.toInt ≤ 255 → 0 ≤ v4.toInt ∧ v4.toInt ≤ 300 → 300 - v4.toInt < (n : Int) → OQ (f_X12_who_b124 n v1 v2 v3 v4 s) (fun r9 s9 => JM 4194816 s0 s9 ∧ True ∧ (r9 = 0 → True) ∧ (¬ r9 = 0 → True)) := by
  induction n with
  | zero => intro v1 v2 v3 v4 s hJ p_v1 p_v3 p_v4 hn; exact False.elim (by have g0 := hn; have g1 := p_v1; have g2 := p_v3; have g3 := p_v4; have g4 := i_rg v1; have g5 := i_rg v2; have g6 := i_rg v3; have g7 := i_rg v4; omega)
  | succ n ih =>
    intro v1 v2 v3 v4 s hJ p_v1 p_v3 p_v4 hn
    unfold f_X12_who_b124
    refine oq_if (fun c1 => ?_) (fun c1 => ?_)
    · refine oq_b (h_X12_orNone _ hJ.1) (fun r12 s13 hs13 => ?_)
      have js13 : JM 4194816 s0 s13 := j_call hJ hs13.1 rfl
      exact ⟨js13, trivial, fun _ => trivial, fun _ => trivial⟩
    · refine oq_if (fun c2 => ?_) (fun c2 => ?_)
      · exact h_X12_who_b154 _ n ih _ _ _ _ _ hJ (by have f0 := p_v1; have f1 := i_rg v1; omega) (by have f0 := p_v3; have f1 := i_rg v3; have f2 := i_eq c2; have f3 : ((-1) : Int32).toInt = (-1) := rfl; omega) (by have f0 := p_v4; have f1 := i_rg v4; have f2 := i_nle c1; have f3 := i_and (s.1 1 0) ((31 : Int32)) (by decide); have f4 := i_sh (s.1 1 0) (by have f0 := j_rd hJ 1 0 0 8 rfl; omega); have f5 : (1 : Int32).toInt = 1 := rfl; have f6 := j_rd hJ 1 0 0 8 rfl; have f7 : (31 : Int32).toInt = 31 := rfl; omega) (by have g0 := p_v1; have g1 := i_rg v1; have g2 := i_rg v2; have g3 := p_v3; have g4 := i_rg v3; have g5 := p_v4; have g6 := i_rg v4; have g7 := i_nle c1; have g8 := i_and (s.1 1 0) ((31 : Int32)) (by decide); have g9 := i_sh (s.1 1 0) (by have f0 := j_rd hJ 1 0 0 8 rfl; omega); have g10 := i_eq c2; have g11 : (1 : Int32).toInt = 1 := rfl; have g12 := j_rd hJ 1 0 0 8 rfl; have g13 : (31 : Int32).toInt = 31 := rfl; have g14 : ((-1) : Int32).toInt = (-1) := rfl; have g15 := hn; omega)
      · refine oq_b (h_X12_bits _ hJ.1 (by have f0 := p_v4; have f1 := i_rg v4; have f2 := i_nle c1; have f3 := i_and (s.1 1 0) ((31 : Int32)) (by decide); have f4 := i_sh (s.1 1 0) (by have f0 := j_rd hJ 1 0 0 8 rfl; omega); have f5 : (1 : Int32).toInt = 1 := rfl; have f6 := j_rd hJ 1 0 0 8 rfl; have f7 : (31 : Int32).toInt = 31 := rfl; omega)) (fun r16 s17 hs17 => ?_)
        have js17 : JM 4194816 s0 s17 := j_call hJ hs17.1 rfl
        refine oq_b (h_X12_bits _ js17.1 (by have f0 := p_v3; have f1 := i_rg v3; have f2 := i_ne c2; have f3 : ((-1) : Int32).toInt = (-1) := rfl; omega)) (fun r18 s19 hs19 => ?_)
        have js19 : JM 4194816 s0 s19 := j_call js17 hs19.1 rfl
        refine oq_if (fun c3 => ?_) (fun c3 => ?_)
        · exact ih _ _ _ _ _ js19 (by have f0 := p_v1; have f1 := i_rg v1; omega) (by have f0 := p_v3; have f1 := i_rg v3; have f2 := i_ne c2; have f3 : ((-1) : Int32).toInt = (-1) := rfl; omega) (by have f0 := i_add (v4) ((1 : Int32)); have f1 := p_v4; have f2 := i_rg v4; have f3 : (1 : Int32).toInt = 1 := rfl; have f4 := i_nle c1; have f5 := i_and (s.1 1 0) ((31 : Int32)) (by decide); have f6 := i_sh (s.1 1 0) (by have f0 := j_rd hJ 1 0 0 8 rfl; omega); have f7 := j_rd hJ 1 0 0 8 rfl; have f8 : (31 : Int32).toInt = 31 := rfl; omega) (by have g0 := i_add (v4) ((1 : Int32)); have g1 := p_v1; have g2 := i_rg v1; have g3 := i_rg v2; have g4 := p_v3; have g5 := i_rg v3; have g6 := p_v4; have g7 := i_rg v4; have g8 : (1 : Int32).toInt = 1 := rfl; have g9 := i_nle c1; have g10 := i_and (s.1 1 0) ((31 : Int32)) (by decide); have g11 := i_sh (s.1 1 0) (by have f0 := j_rd hJ 1 0 0 8 rfl; omega); have g12 := i_ne c2; have g13 := j_rd hJ 1 0 0 8 rfl; have g14 : (31 : Int32).toInt = 31 := rfl; have g15 : ((-1) : Int32).toInt = (-1) := rfl; have g16 := hn; omega)
        · exact h_X12_who_b154 _ n ih _ _ _ _ _ js19 (by have f0 := p_v1; have f1 := i_rg v1; omega) (by have f0 := p_v3; have f1 := i_rg v3; have f2 := i_ne c2; have f3 : ((-1) : Int32).toInt = (-1) := rfl; omega) (by have f0 := p_v4; have f1 := i_rg v4; have f2 := i_nle c1; have f3 := i_and (s.1 1 0) ((31 : Int32)) (by decide); have f4 := i_sh (s.1 1 0) (by have f0 := j_rd hJ 1 0 0 8 rfl; omega); have f5 : (1 : Int32).toInt = 1 := rfl; have f6 := j_rd hJ 1 0 0 8 rfl; have f7 : (31 : Int32).toInt = 31 := rfl; omega) (by have g0 := p_v1; have g1 := i_rg v1; have g2 := i_rg v2; have g3 := p_v3; have g4 := i_rg v3; have g5 := p_v4; have g6 := i_rg v4; have g7 := i_nle c1; have g8 := i_and (s.1 1 0) ((31 : Int32)) (by decide); have g9 := i_sh (s.1 1 0) (by have f0 := j_rd hJ 1 0 0 8 rfl; omega); have g10 := i_ne c2; have g11 : (1 : Int32).toInt = 1 := rfl; have g12 := j_rd hJ 1 0 0 8 rfl; have g13 : (31 : Int32).toInt = 31 := rfl; have g14 : ((-1) : Int32).toInt = (-1) := rfl; have g15 := hn; omega)
theorem h_X12_who_b64 {s0 : Sg} (n : Nat) : ∀ (v1 : Int32) (v2 : Int32) (v3 : Int32) (s : Sg), JM 4194816 s0 s → 0 ≤ v1.toInt ∧ v1.toInt ≤ 3 → 0 ≤ v3.toInt ∧ v3.toInt ≤ 8 → 8 - v3.toInt < (n : Int) → OQ (f_X12_who_b64 n v1 v2 v3 s) (fun r9 s9 => JM 4194816 s0 s9 ∧ True ∧ (r9 = 0 → True) ∧ (¬ r9 = 0 → True)) := by
  induction n with
  | zero => intro v1 v2 v3 s hJ p_v1 p_v3 hn; exact False.elim (by have g0 := hn; have g1 := p_v1; have g2 := p_v3; have g3 := i_rg v1; have g4 := i_rg v2; have g5 := i_rg v3; omega)
  | succ n ih =>
    intro v1 v2 v3 s hJ p_v1 p_v3 hn
    unfold f_X12_who_b64
    refine oq_if (fun c1 => ?_) (fun c1 => ?_)
    · exact h_X12_who_b124 BIG _ _ _ _ _ hJ (by have f0 := p_v1; have f1 := i_rg v1; omega) (by have f0 : ((-1) : Int32).toInt = (-1) := rfl; omega) (by have f0 : (0 : Int32).toInt = 0 := rfl; omega) (by have g0 := p_v1; have g1 := i_rg v1; have g2 := i_rg v2; have g3 : ((-1) : Int32).toInt = (-1) := rfl; have g4 : (0 : Int32).toInt = 0 := rfl; have g5 : BIG = 4294967296 := rfl; omega)
    · refine oq_c (inr_of (by have f0 := i_mul ((60 : Int32)) (v1); have f1 := i_add (60 * v1) (v3); have f2 : (60 : Int32).toInt = 60 := rfl; have f3 := p_v1; have f4 := i_rg v1; have f5 := p_v3; have f6 := i_rg v3; have f7 := i_nle c1; have f8 := j_rd hJ 1 0 0 8 rfl; omega)) ?_
      refine oq_b (h_X12_isGone _ hJ.1 (by have f0 := p_v3; have f1 := i_rg v3; have f2 := i_nle c1; have f3 := j_rd hJ 1 0 0 8 rfl; omega)) (fun r21 s22 hs22 => ?_)
      have js22 : JM 4194816 s0 s22 := j_call hJ hs22.1 rfl
      refine oq_if (fun c2 => ?_) (fun c2 => ?_)
      · refine oq_b (h_X12_isFrom _ _ _ js22.1) (fun r23 s24 hs24 => ?_)
        have js24 : JM 4194816 s0 s24 := j_call js22 hs24.1 rfl
        refine oq_if (fun c3 => ?_) (fun c3 => ?_)
        · refine oq_b (h_X12_refuse _ js24.1 (by have f0 : (5 : Int32).toInt = 5 := rfl; omega)) (fun r25 s26 hs26 => ?_)
          have js26 : JM 4194816 s0 s26 := j_call js24 hs26.1 rfl
          exact ⟨js26, trivial, fun w9 => False.elim (by have f0 := hs26.2.1; have f1 := i_rg r25; have f2 := i_eq w9; have f3 : (0 : Int32).toInt = 0 := rfl; omega), fun _ => trivial⟩
        · exact ih _ _ _ _ js24 (by have f0 := p_v1; have f1 := i_rg v1; omega) (by have f0 := i_add (v3) ((1 : Int32)); have f1 := p_v3; have f2 := i_rg v3; have f3 : (1 : Int32).toInt = 1 := rfl; have f4 := i_nle c1; have f5 := j_rd hJ 1 0 0 8 rfl; omega) (by have g0 := i_add (v3) ((1 : Int32)); have g1 := p_v1; have g2 := i_rg v1; have g3 := i_rg v2; have g4 := p_v3; have g5 := i_rg v3; have g6 : (1 : Int32).toInt = 1 := rfl; have g7 := i_nle c1; have g8 := j_rd hJ 1 0 0 8 rfl; have g9 := hn; omega)
      · refine oq_b (h_X12_isFrom _ _ _ js22.1) (fun r27 s28 hs28 => ?_)
        have js28 : JM 4194816 s0 s28 := j_call js22 hs28.1 rfl
        refine oq_if (fun c4 => ?_) (fun c4 => ?_)
        · refine oq_b (h_X12_refuse _ js28.1 (by have f0 : (5 : Int32).toInt = 5 := rfl; omega)) (fun r29 s30 hs30 => ?_)
          have js30 : JM 4194816 s0 s30 := j_call js28 hs30.1 rfl
          exact ⟨js30, trivial, fun w9 => False.elim (by have f0 := hs30.2.1; have f1 := i_rg r29; have f2 := i_eq w9; have f3 : (0 : Int32).toInt = 0 := rfl; omega), fun _ => trivial⟩
        · exact ih _ _ _ _ js28 (by have f0 := p_v1; have f1 := i_rg v1; omega) (by have f0 := i_add (v3) ((1 : Int32)); have f1 := p_v3; have f2 := i_rg v3; have f3 : (1 : Int32).toInt = 1 := rfl; have f4 := i_nle c1; have f5 := j_rd hJ 1 0 0 8 rfl; omega) (by have g0 := i_add (v3) ((1 : Int32)); have g1 := p_v1; have g2 := i_rg v1; have g3 := i_rg v2; have g4 := p_v3; have g5 := i_rg v3; have g6 : (1 : Int32).toInt = 1 := rfl; have g7 := i_nle c1; have g8 := j_rd hJ 1 0 0 8 rfl; have g9 := hn; omega)
theorem h_X12_who (a1 : Int32) (a2 : Int32) {s : Sg} (hR : Rg rM s) : OQ (f_X12_who a1 a2 s) (fun r9 s9 => JM 4194816 s s9 ∧ True ∧ (r9 = 0 → True) ∧ (¬ r9 = 0 → True)) := by
  have hJ : JM 4194816 s s := j_refl hR
  unfold f_X12_who
  refine oq_b (h_X12_isTray _ hJ.1) (fun r1 s2 hs2 => ?_)
  have js2 : JM 4194816 s s2 := j_call hJ hs2.1 rfl
  refine oq_if (fun c1 => ?_) (fun c1 => ?_)
  · refine oq_b (h_X12_refuse _ js2.1 (by have f0 : (1 : Int32).toInt = 1 := rfl; omega)) (fun r3 s4 hs4 => ?_)
    have js4 : JM 4194816 s s4 := j_call js2 hs4.1 rfl
    exact ⟨js4, trivial, fun w9 => False.elim (by have f0 := hs4.2.1; have f1 := i_rg r3; have f2 := i_eq w9; have f3 : (0 : Int32).toInt = 0 := rfl; omega), fun _ => trivial⟩
  · refine oq_b (h_X12_isFrom _ _ _ js2.1) (fun r5 s6 hs6 => ?_)
    have js6 : JM 4194816 s s6 := j_call js2 hs6.1 rfl
    refine oq_if (fun c2 => ?_) (fun c2 => ?_)
    · refine oq_b (h_X12_refuse _ js6.1 (by have f0 : (1 : Int32).toInt = 1 := rfl; omega)) (fun r7 s8 hs8 => ?_)
      have js8 : JM 4194816 s s8 := j_call js6 hs8.1 rfl
      exact ⟨js8, trivial, fun w9 => False.elim (by have f0 := hs8.2.1; have f1 := i_rg r7; have f2 := i_eq w9; have f3 : (0 : Int32).toInt = 0 := rfl; omega), fun _ => trivial⟩
    · refine oq_c (inr_of (by have f0 := i_rg a1; have f1 := (hs2.2.2.2 c1).1; have f2 := (hs2.2.2.2 c1).2; have f3 : (0 : Int32).toInt = 0 := rfl; have f4 : (3 : Int32).toInt = 3 := rfl; omega)) ?_
      refine oq_if (fun c3 => ?_) (fun c3 => ?_)
      · refine oq_b (h_X12_refuse _ js6.1 (by have f0 : (2 : Int32).toInt = 2 := rfl; omega)) (fun r10 s11 hs11 => ?_)
        have js11 : JM 4194816 s s11 := j_call js6 hs11.1 rfl
        exact ⟨js11, trivial, fun w9 => False.elim (by have f0 := hs11.2.1; have f1 := i_rg r10; have f2 := i_eq w9; have f3 : (0 : Int32).toInt = 0 := rfl; omega), fun _ => trivial⟩
      · refine oq_if (fun c4 => ?_) (fun c4 => ?_)
        · exact h_X12_who_b64 BIG _ _ _ _ js6 (by have f0 := i_rg a1; have f1 := (hs2.2.2.2 c1).1; have f2 := (hs2.2.2.2 c1).2; have f3 : (0 : Int32).toInt = 0 := rfl; have f4 : (3 : Int32).toInt = 3 := rfl; omega) (by have f0 : (0 : Int32).toInt = 0 := rfl; omega) (by have g0 := i_rg a1; have g1 := i_rg a2; have g2 : (0 : Int32).toInt = 0 := rfl; have g3 := (hs2.2.2.2 c1).1; have g4 := (hs2.2.2.2 c1).2; have g5 : (3 : Int32).toInt = 3 := rfl; have g6 : BIG = 4294967296 := rfl; omega)
        · refine oq_b (h_X12_refuse _ js6.1 (by have f0 : (3 : Int32).toInt = 3 := rfl; omega)) (fun r31 s32 hs32 => ?_)
          have js32 : JM 4194816 s s32 := j_call js6 hs32.1 rfl
          exact ⟨js32, trivial, fun w9 => False.elim (by have f0 := hs32.2.1; have f1 := i_rg r31; have f2 := i_eq w9; have f3 : (0 : Int32).toInt = 0 := rfl; omega), fun _ => trivial⟩
theorem h_X12_waysOf_b5 {s0 : Sg} (v0 : Int64) (v2 : Int32) (n : Nat) : ∀ (v3 : Int64) (v5 : Int32) (s : Sg), JM 0 s0 s → 0 ≤ v5.toInt → ((v2.toInt ≤ v0.toInt ∧ v0.toInt ≤ 9999 ∧ 1 ≤ v2.toInt ∧ v2.toInt ≤ 4) → v5.toInt ≤ v2.toInt ∧ WI v0.toInt v3.toInt v5.toInt) → 2147483648 - v5.toInt < (n : Int) → OQ (f_X12_waysOf_b5 n v0 v2 v3 v5 s) (fun r9 s9 => JM 0 s0 s9 ∧ ((v2.toInt ≤ v0.toInt ∧ v0.toInt ≤ 9999 ∧ 1 ≤ v2.toInt ∧ v2.toInt ≤ 4) → ¬ r9 = 0)) := by
  induction n with
  | zero => intro v3 v5 s _ h0 _ hn; exact False.elim (by have := i_rg v5; omega)
  | succ n ih =>
    intro v3 v5 s hJ h0 hw hn
    unfold f_X12_waysOf_b5
    refine oq_if (fun c => ?_) (fun c => ?_)
    · refine ⟨hJ, fun H e => ?_⟩
      have c' := i_le c
      obtain ⟨w1, w2⟩ := hw H
      have z : v3.toInt = 0 := by rw [e]; rfl
      unfold WI at w2
      omega
    · have c' := i_nle c
      have rv := i_rg v2
      have e5 := i_add v5 1
      have e1 : (1 : Int32).toInt = 1 := rfl
      have hd : (v5.toInt64 + 1).toInt = v5.toInt + 1 := by
        have q : (v5.toInt64 + 1).toInt = Int.bmod (v5.toInt64.toInt + (1 : Int64).toInt) 18446744073709551616 := Int64.toInt_add _ _
        have q1 : (1 : Int64).toInt = 1 := rfl
        rw [q, bm64, l_32, q1]; omega
      refine oq_c (fun e => ?_) ?_
      · have : (v5.toInt64 + 1).toInt = (0 : Int64).toInt := congrArg _ e
        have z : (0 : Int64).toInt = 0 := rfl
        omega
      · refine oq_n (fun x2 ex => ?_)
        refine ih x2 (v5 + 1) s hJ (by omega) (fun H => ?_) (by omega)
        obtain ⟨w1, w2⟩ := hw H
        obtain ⟨g1, g2, g3⟩ := wi_step (N := v0.toInt) (x := v3.toInt) (i := v5.toInt) (by omega) (by omega) w2
        have q := w_step (v3 := v3) (v0 := v0) (c := v5.toInt64) (d := v5.toInt64 + 1) (l_32 v5) hd (by omega) (by omega) (by omega) g1 g2
        have q5 : (v5 + 1).toInt = v5.toInt + 1 := by omega
        refine ⟨by omega, ?_⟩
        rw [ex, q, q5]
        exact g3
theorem h_X12_waysOf (a0 : Int64) (a1 : Int32) {s : Sg} (hR : Rg rM s) : OQ (f_X12_waysOf a0 a1 s) (fun r9 s9 => JM 0 s s9 ∧ ((a1.toInt ≤ a0.toInt → a0.toInt ≤ 9999 → 1 ≤ a1.toInt → a1.toInt ≤ 4 → ¬ r9 = 0))) := by
  unfold f_X12_waysOf
  have q := h_X12_waysOf_b5 a0 a1 BIG 1 0 s (j_refl hR) (by decide) (fun H => ⟨by have e0 : (0 : Int32).toInt = 0 := rfl; omega, Or.inl ⟨rfl, rfl⟩⟩) (by decide)
  exact oq_w q (fun r9 s9 h => ⟨h.1, fun g1 g2 g3 g4 => h.2 ⟨g1, g2, g3, g4⟩⟩)
theorem tb_end {s0 : Sg} (n : Nat) (v1 v3 v5 v7 : Int64) (s : Sg) (hJ : JM 29360128 s0 s) (h7 : v7 = 0) (h5 : ¬ v5 = 0) : OQ (f_X12_tellsBy_b6 (n + 1) v1 v3 v5 v7 s) (fun r9 s9 => JM 29360128 s0 s9 ∧ (0 ≤ r9.toInt ∧ r9.toInt ≤ 1) ∧ (r9 = 0 → True) ∧ (¬ r9 = 0 → True)) := by
  unfold f_X12_tellsBy_b6
  rw [if_pos (by rw [h7]; rfl)]
  refine oq_c h5 ?_
  refine oq_n (fun s2 e2 => ?_)
  have j2 : JM 29360128 s0 s2 := by rw [e2]; exact j_wl (j_wl hJ 23 rfl rfl) 24 rfl rfl
  refine oq_b (h_X12_is 0 j2.1 ⟨by decide, by decide⟩) (fun r3 s4 h4 => ?_)
  have j4 : JM 29360128 s0 s4 := j_call j2 h4.1 rfl
  have b : 0 ≤ r3.toInt ∧ r3.toInt ≤ 1 := by have := h4.2.1; omega
  exact oq_c (b01_of b) ⟨j4, b, fun _ => trivial, fun _ => trivial⟩
theorem tb_step (n : Nat) (v1 v3 v5 v7 : Int64) (s : Sg) (h7 : ¬ v7 = 0) : f_X12_tellsBy_b6 (n + 1) v1 v3 v5 v7 s = f_X12_tellsBy_b6 n v1 v3 v7 (v5 - v5 / v7 * v7) s := by
  rw [f_X12_tellsBy_b6, if_neg (fun e => h7 (lg_e0 e))]
  unfold ck
  rw [if_pos h7]
theorem tb_all {s0 : Sg} (v1 v3 : Int64) (s : Sg) (hJ : JM 29360128 s0 s) (k : Nat) : ∀ (n : Nat) (v5 v7 : Int64), 2 * k + 1 ≤ n → v7.toInt.natAbs < 2 ^ k → (¬ v7 = 0 ∨ ¬ v5 = 0) → OQ (f_X12_tellsBy_b6 n v1 v3 v5 v7 s) (fun r9 s9 => JM 29360128 s0 s9 ∧ (0 ≤ r9.toInt ∧ r9.toInt ≤ 1) ∧ (r9 = 0 → True) ∧ (¬ r9 = 0 → True)) := by
  induction k with
  | zero =>
    intro n v5 v7 hn hv h0
    have z : v7 = 0 := Int64.toInt_inj.mp (show v7.toInt = (0 : Int64).toInt by have e : (0 : Int64).toInt = 0 := rfl; rw [e]; have e1 : (2 : Nat) ^ 0 = 1 := rfl; omega)
    obtain ⟨m, rfl⟩ : ∃ m, n = m + 1 := ⟨n - 1, by omega⟩
    exact tb_end m v1 v3 v5 v7 s hJ z (by rcases h0 with h | h; exact absurd z h; exact h)
  | succ k ih =>
    intro n v5 v7 hn hv h0
    obtain ⟨m, rfl⟩ : ∃ m, n = m + 2 := ⟨n - 2, by omega⟩
    by_cases z : v7 = 0
    · exact tb_end (m + 1) v1 v3 v5 v7 s hJ z (by rcases h0 with h | h; exact absurd z h; exact h)
    · rw [tb_step (m + 1) v1 v3 v5 v7 s z]
      have r1 : (v5 - v5 / v7 * v7).toInt.natAbs = v5.toInt.natAbs % v7.toInt.natAbs := by rw [l_rem, na_tm]
      have l7 := l_ne z
      have b1 := Nat.mod_lt v5.toInt.natAbs l7
      by_cases y : v5 - v5 / v7 * v7 = 0
      · exact tb_end m v1 v3 _ _ s hJ y z
      · rw [tb_step m v1 v3 _ _ s y]
        have ly := l_ne y
        refine ih m _ _ (by omega) ?_ (Or.inr y)
        rw [l_rem, na_tm]
        have hm := half_mod ly (by rw [r1]; exact b1 : (v5 - v5 / v7 * v7).toInt.natAbs < v7.toInt.natAbs)
        have p2 : 2 ^ (k + 1) = 2 * 2 ^ k := by rw [Nat.pow_succ]; omega
        omega
theorem h_X12_tellsBy (a1 : Int64) (a2 : Int64) {s : Sg} (hR : Rg rM s) (x_1 : (¬ a2 = 0)) : OQ (f_X12_tellsBy a1 a2 s) (fun r9 s9 => JM 29360128 s s9 ∧ (0 ≤ r9.toInt ∧ r9.toInt ≤ 1) ∧ (r9 = 0 → True) ∧ (¬ r9 = 0 → True)) := by
  unfold f_X12_tellsBy
  have a := a2.toInt_lt
  have b := a2.le_toInt
  exact tb_all a1 a2 s (j_refl hR) 64 BIG a1 a2 (by decide) (by have e : (2 : Nat) ^ 64 = 18446744073709551616 := rfl; omega) (Or.inl x_1)
theorem h_X12_found_b21 {s0 : Sg} (v1 : Int32) (v2 : Int32) (t0 : Int32) (s : Sg) (hJ : JM 29360128 s0 s) (p_t0 : 0 ≤ t0.toInt ∧ t0.toInt ≤ 7) (x_1 : (0 < t0.toInt ∨ (1 ≤ v2.toInt ∧ v2.toInt ≤ 4))) (x_2 : (t0.toInt = 1 ∨ (0 ≤ v1.toInt ∧ v1.toInt ≤ 7))) : OQ (f_X12_found_b21 v1 v2 t0 s) (fun r9 s9 => JM 29360128 s0 s9 ∧ (0 ≤ r9.toInt ∧ r9.toInt ≤ 1) ∧ (r9 = 0 → True) ∧ (¬ r9 = 0 → True)) := by
  unfold f_X12_found_b21
  refine oq_if (fun c1 => ?_) (fun c1 => ?_)
  · refine oq_b (h_X12_grainsOn _ hJ.1 (by have f0 := i_rg v1; have f1 := x_2; have f2 := i_le c1; have f3 := p_t0; have f4 := i_rg t0; have f5 : (0 : Int32).toInt = 0 := rfl; have f6 := x_1; have f7 := i_rg v2; omega)) (fun r3 s4 hs4 => ?_)
    have js4 : JM 29360128 s0 s4 := j_call hJ hs4.1 rfl
    refine oq_if (fun c2 => ?_) (fun c2 => ?_)
    · refine oq_b (h_X12_is _ js4.1 (by have f0 : (7 : Int32).toInt = 7 := rfl; omega)) (fun r5 s6 hs6 => ?_)
      have js6 : JM 29360128 s0 s6 := j_call js4 hs6.1 rfl
      refine oq_c (b01_of (by have f0 := hs6.2.1; have f1 := i_rg r5; omega)) ?_
      exact ⟨js6, (by have f0 := hs6.2.1; have f1 := i_rg r5; omega), fun _ => trivial, fun w9 => False.elim (by have f0 := hs6.2.1; have f1 := i_rg r5; have f2 := i_ne w9; have f3 := (hs6.2.2.2 w9); have f4 : (0 : Int32).toInt = 0 := rfl; have f5 : (7 : Int32).toInt = 7 := rfl; omega)⟩
    · refine oq_b (h_X12_grainsOn _ js4.1 (by have f0 := i_rg v1; have f1 := x_2; have f2 := i_le c1; have f3 := p_t0; have f4 := i_rg t0; have f5 : (0 : Int32).toInt = 0 := rfl; have f6 := x_1; have f7 := i_nlt c2; have f8 := i_rg v2; have f9 := i_rg r3; omega)) (fun r7 s8 hs8 => ?_)
      have js8 : JM 29360128 s0 s8 := j_call js4 hs8.1 rfl
      refine oq_if (fun c3 => ?_) (fun c3 => ?_)
      · refine oq_b (h_X12_grainsOn _ js8.1 (by have f0 := i_rg v1; have f1 := x_2; have f2 := i_le c1; have f3 := p_t0; have f4 := i_rg t0; have f5 : (0 : Int32).toInt = 0 := rfl; have f6 := x_1; have f7 := i_nlt c2; have f8 := i_rg v2; have f9 := i_rg r3; omega)) (fun r9 s10 hs10 => ?_)
        have js10 : JM 29360128 s0 s10 := j_call js8 hs10.1 rfl
        refine oq_b (h_X12_waysOf _ _ js10.1) (fun r11 s12 hs12 => ?_)
        have js12 : JM 29360128 s0 s12 := j_call js10 hs12.1 rfl
        refine oq_b (h_X12_houseRow _ js12.1 (by have f0 := i_rg v1; have f1 := x_2; have f2 := i_le c1; have f3 := p_t0; have f4 := i_rg t0; have f5 : (0 : Int32).toInt = 0 := rfl; have f6 := x_1; have f7 := i_nlt c2; have f8 := i_rg v2; have f9 := i_rg r3; omega)) (fun r13 s14 hs14 => ?_)
        have js14 : JM 29360128 s0 s14 := j_call js12 hs14.1 rfl
        refine oq_c (inr_of (by have f0 := hs14.2.1; have f1 := i_rg r13; have f2 := hs14.2.1.2; have f3 := i_rg v1; have f4 := x_2; have f5 := i_le c1; have f6 := p_t0; have f7 := i_rg t0; have f8 : (0 : Int32).toInt = 0 := rfl; have f9 := x_1; have f10 := i_nlt c2; have f11 := i_rg v2; have f12 := i_rg r3; omega)) ?_
        refine oq_if (fun c4 => ?_) (fun c4 => ?_)
        · refine oq_b (h_X12_houseRow _ js14.1 (by have f0 := i_rg v1; have f1 := x_2; have f2 := i_le c1; have f3 := p_t0; have f4 := i_rg t0; have f5 : (0 : Int32).toInt = 0 := rfl; have f6 := x_1; have f7 := i_nlt c2; have f8 := i_le c4; have f9 := i_rg v2; have f10 := i_rg r3; have f11 : (s14.1 1 r13.toNatClampNeg).toInt = (s12.1 1 r13.toNatClampNeg).toInt := j_fa hs14.1 r13.toNatClampNeg rfl; have f12 := i_rg (s14.1 1 r13.toNatClampNeg); have f13 : (s12.1 1 r13.toNatClampNeg).toInt = (s10.1 1 r13.toNatClampNeg).toInt := j_fa hs12.1 r13.toNatClampNeg rfl; have f14 := i_rg (s12.1 1 r13.toNatClampNeg); have f15 : (s10.1 1 r13.toNatClampNeg).toInt = (s8.1 1 r13.toNatClampNeg).toInt := j_fa hs10.1 r13.toNatClampNeg rfl; have f16 := i_rg (s10.1 1 r13.toNatClampNeg); have f17 : (s8.1 1 r13.toNatClampNeg).toInt = (s4.1 1 r13.toNatClampNeg).toInt := j_fa hs8.1 r13.toNatClampNeg rfl; have f18 := i_rg (s8.1 1 r13.toNatClampNeg); have f19 : (s4.1 1 r13.toNatClampNeg).toInt = (s.1 1 r13.toNatClampNeg).toInt := j_fa hs4.1 r13.toNatClampNeg rfl; have f20 := i_rg (s4.1 1 r13.toNatClampNeg); have f21 := i_rg (s.1 1 r13.toNatClampNeg); omega)) (fun r16 s17 hs17 => ?_)
          have js17 : JM 29360128 s0 s17 := j_call js14 hs17.1 rfl
          refine oq_c (inr_of (by have f0 := hs17.2.1; have f1 := i_rg r16; have f2 := hs17.2.1.2; have f3 := i_rg v1; have f4 := x_2; have f5 := i_le c1; have f6 := p_t0; have f7 := i_rg t0; have f8 : (0 : Int32).toInt = 0 := rfl; have f9 := x_1; have f10 := i_nlt c2; have f11 := i_le c4; have f12 := i_rg v2; have f13 := i_rg r3; have f14 := i_rg (s14.1 1 r13.toNatClampNeg); omega)) ?_
          refine oq_b (h_X12_waysOf _ _ js17.1) (fun r19 s20 hs20 => ?_)
          have js20 : JM 29360128 s0 s20 := j_call js17 hs20.1 rfl
          refine oq_b (h_X12_tellsBy _ _ js20.1 (hs12.2 (by have g0 := i_rg r9; have g1 := i_rg r7; have g2 := i_rg r3; have g3 := i_rg v2; have g4 := x_1; have g5 := x_2; have g6 := i_le c1; have g7 := i_nlt c2; have g8 := i_le c3; have g9 := i_le c4; have g10 := p_t0; have g11 := i_rg t0; have g12 := i_rg v1; have g13 : (0 : Int32).toInt = 0 := rfl; have g14 : (9999 : Int32).toInt = 9999 := rfl; have g15 : (s14.1 1 r13.toNatClampNeg).toInt = (s12.1 1 r13.toNatClampNeg).toInt := j_fa hs14.1 r13.toNatClampNeg rfl; have g16 := i_rg (s14.1 1 r13.toNatClampNeg); have g17 : (s12.1 1 r13.toNatClampNeg).toInt = (s10.1 1 r13.toNatClampNeg).toInt := j_fa hs12.1 r13.toNatClampNeg rfl; have g18 := i_rg (s12.1 1 r13.toNatClampNeg); have g19 : (s10.1 1 r13.toNatClampNeg).toInt = (s8.1 1 r13.toNatClampNeg).toInt := j_fa hs10.1 r13.toNatClampNeg rfl; have g20 := i_rg (s10.1 1 r13.toNatClampNeg); have g21 : (s8.1 1 r13.toNatClampNeg).toInt = (s4.1 1 r13.toNatClampNeg).toInt := j_fa hs8.1 r13.toNatClampNeg rfl; have g22 := i_rg (s8.1 1 r13.toNatClampNeg); have g23 : (s4.1 1 r13.toNatClampNeg).toInt = (s.1 1 r13.toNatClampNeg).toInt := j_fa hs4.1 r13.toNatClampNeg rfl; have g24 := i_rg (s4.1 1 r13.toNatClampNeg); have g25 := i_rg (s.1 1 r13.toNatClampNeg); have g26 := l_32 r9; have g27 := i_eq (hs4.2.1.2.trans ((gs_fr hs4.1 rfl v1).symm.trans hs8.2.1.2.symm)); have g28 := i_eq (hs8.2.1.2.trans ((gs_fr hs8.1 rfl v1).symm.trans hs10.2.1.2.symm)); omega) (by have g0 := i_rg r9; have g1 := i_rg r7; have g2 := i_rg r3; have g3 := i_rg v2; have g4 := x_1; have g5 := x_2; have g6 := i_le c1; have g7 := i_nlt c2; have g8 := i_le c3; have g9 := i_le c4; have g10 := p_t0; have g11 := i_rg t0; have g12 := i_rg v1; have g13 : (0 : Int32).toInt = 0 := rfl; have g14 : (9999 : Int32).toInt = 9999 := rfl; have g15 : (s14.1 1 r13.toNatClampNeg).toInt = (s12.1 1 r13.toNatClampNeg).toInt := j_fa hs14.1 r13.toNatClampNeg rfl; have g16 := i_rg (s14.1 1 r13.toNatClampNeg); have g17 : (s12.1 1 r13.toNatClampNeg).toInt = (s10.1 1 r13.toNatClampNeg).toInt := j_fa hs12.1 r13.toNatClampNeg rfl; have g18 := i_rg (s12.1 1 r13.toNatClampNeg); have g19 : (s10.1 1 r13.toNatClampNeg).toInt = (s8.1 1 r13.toNatClampNeg).toInt := j_fa hs10.1 r13.toNatClampNeg rfl; have g20 := i_rg (s10.1 1 r13.toNatClampNeg); have g21 : (s8.1 1 r13.toNatClampNeg).toInt = (s4.1 1 r13.toNatClampNeg).toInt := j_fa hs8.1 r13.toNatClampNeg rfl; have g22 := i_rg (s8.1 1 r13.toNatClampNeg); have g23 : (s4.1 1 r13.toNatClampNeg).toInt = (s.1 1 r13.toNatClampNeg).toInt := j_fa hs4.1 r13.toNatClampNeg rfl; have g24 := i_rg (s4.1 1 r13.toNatClampNeg); have g25 := i_rg (s.1 1 r13.toNatClampNeg); have g26 := l_32 r9; have g27 := i_eq (hs4.2.1.2.trans ((gs_fr hs4.1 rfl v1).symm.trans hs8.2.1.2.symm)); have g28 := i_eq (hs8.2.1.2.trans ((gs_fr hs8.1 rfl v1).symm.trans hs10.2.1.2.symm)); omega) (by have g0 := i_rg r9; have g1 := i_rg r7; have g2 := i_rg r3; have g3 := i_rg v2; have g4 := x_1; have g5 := x_2; have g6 := i_le c1; have g7 := i_nlt c2; have g8 := i_le c3; have g9 := i_le c4; have g10 := p_t0; have g11 := i_rg t0; have g12 := i_rg v1; have g13 : (0 : Int32).toInt = 0 := rfl; have g14 : (9999 : Int32).toInt = 9999 := rfl; have g15 : (s14.1 1 r13.toNatClampNeg).toInt = (s12.1 1 r13.toNatClampNeg).toInt := j_fa hs14.1 r13.toNatClampNeg rfl; have g16 := i_rg (s14.1 1 r13.toNatClampNeg); have g17 : (s12.1 1 r13.toNatClampNeg).toInt = (s10.1 1 r13.toNatClampNeg).toInt := j_fa hs12.1 r13.toNatClampNeg rfl; have g18 := i_rg (s12.1 1 r13.toNatClampNeg); have g19 : (s10.1 1 r13.toNatClampNeg).toInt = (s8.1 1 r13.toNatClampNeg).toInt := j_fa hs10.1 r13.toNatClampNeg rfl; have g20 := i_rg (s10.1 1 r13.toNatClampNeg); have g21 : (s8.1 1 r13.toNatClampNeg).toInt = (s4.1 1 r13.toNatClampNeg).toInt := j_fa hs8.1 r13.toNatClampNeg rfl; have g22 := i_rg (s8.1 1 r13.toNatClampNeg); have g23 : (s4.1 1 r13.toNatClampNeg).toInt = (s.1 1 r13.toNatClampNeg).toInt := j_fa hs4.1 r13.toNatClampNeg rfl; have g24 := i_rg (s4.1 1 r13.toNatClampNeg); have g25 := i_rg (s.1 1 r13.toNatClampNeg); have g26 := l_32 r9; have g27 := i_eq (hs4.2.1.2.trans ((gs_fr hs4.1 rfl v1).symm.trans hs8.2.1.2.symm)); have g28 := i_eq (hs8.2.1.2.trans ((gs_fr hs8.1 rfl v1).symm.trans hs10.2.1.2.symm)); omega) (by have g0 := i_rg r9; have g1 := i_rg r7; have g2 := i_rg r3; have g3 := i_rg v2; have g4 := x_1; have g5 := x_2; have g6 := i_le c1; have g7 := i_nlt c2; have g8 := i_le c3; have g9 := i_le c4; have g10 := p_t0; have g11 := i_rg t0; have g12 := i_rg v1; have g13 : (0 : Int32).toInt = 0 := rfl; have g14 : (9999 : Int32).toInt = 9999 := rfl; have g15 : (s14.1 1 r13.toNatClampNeg).toInt = (s12.1 1 r13.toNatClampNeg).toInt := j_fa hs14.1 r13.toNatClampNeg rfl; have g16 := i_rg (s14.1 1 r13.toNatClampNeg); have g17 : (s12.1 1 r13.toNatClampNeg).toInt = (s10.1 1 r13.toNatClampNeg).toInt := j_fa hs12.1 r13.toNatClampNeg rfl; have g18 := i_rg (s12.1 1 r13.toNatClampNeg); have g19 : (s10.1 1 r13.toNatClampNeg).toInt = (s8.1 1 r13.toNatClampNeg).toInt := j_fa hs10.1 r13.toNatClampNeg rfl; have g20 := i_rg (s10.1 1 r13.toNatClampNeg); have g21 : (s8.1 1 r13.toNatClampNeg).toInt = (s4.1 1 r13.toNatClampNeg).toInt := j_fa hs8.1 r13.toNatClampNeg rfl; have g22 := i_rg (s8.1 1 r13.toNatClampNeg); have g23 : (s4.1 1 r13.toNatClampNeg).toInt = (s.1 1 r13.toNatClampNeg).toInt := j_fa hs4.1 r13.toNatClampNeg rfl; have g24 := i_rg (s4.1 1 r13.toNatClampNeg); have g25 := i_rg (s.1 1 r13.toNatClampNeg); have g26 := l_32 r9; have g27 := i_eq (hs4.2.1.2.trans ((gs_fr hs4.1 rfl v1).symm.trans hs8.2.1.2.symm)); have g28 := i_eq (hs8.2.1.2.trans ((gs_fr hs8.1 rfl v1).symm.trans hs10.2.1.2.symm)); omega))) (fun r21 s22 hs22 => ?_)
          have js22 : JM 29360128 s0 s22 := j_call js20 hs22.1 rfl
          refine oq_c (b01_of (by have f0 := hs22.2.1; have f1 := i_rg r21; omega)) ?_
          exact ⟨js22, (by have f0 := hs22.2.1; have f1 := i_rg r21; omega), fun _ => trivial, fun _ => trivial⟩
        · refine oq_b (h_X12_tellsBy _ _ js14.1 (hs12.2 (by have g0 := i_rg r9; have g1 := i_rg r7; have g2 := i_rg r3; have g3 := i_rg v2; have g4 := x_1; have g5 := x_2; have g6 := i_le c1; have g7 := i_nlt c2; have g8 := i_le c3; have g9 := i_nle c4; have g10 := p_t0; have g11 := i_rg t0; have g12 := i_rg v1; have g13 : (0 : Int32).toInt = 0 := rfl; have g14 : (9999 : Int32).toInt = 9999 := rfl; have g15 : (s14.1 1 r13.toNatClampNeg).toInt = (s12.1 1 r13.toNatClampNeg).toInt := j_fa hs14.1 r13.toNatClampNeg rfl; have g16 := i_rg (s14.1 1 r13.toNatClampNeg); have g17 : (s12.1 1 r13.toNatClampNeg).toInt = (s10.1 1 r13.toNatClampNeg).toInt := j_fa hs12.1 r13.toNatClampNeg rfl; have g18 := i_rg (s12.1 1 r13.toNatClampNeg); have g19 : (s10.1 1 r13.toNatClampNeg).toInt = (s8.1 1 r13.toNatClampNeg).toInt := j_fa hs10.1 r13.toNatClampNeg rfl; have g20 := i_rg (s10.1 1 r13.toNatClampNeg); have g21 : (s8.1 1 r13.toNatClampNeg).toInt = (s4.1 1 r13.toNatClampNeg).toInt := j_fa hs8.1 r13.toNatClampNeg rfl; have g22 := i_rg (s8.1 1 r13.toNatClampNeg); have g23 : (s4.1 1 r13.toNatClampNeg).toInt = (s.1 1 r13.toNatClampNeg).toInt := j_fa hs4.1 r13.toNatClampNeg rfl; have g24 := i_rg (s4.1 1 r13.toNatClampNeg); have g25 := i_rg (s.1 1 r13.toNatClampNeg); have g26 := l_32 r9; have g27 := i_eq (hs4.2.1.2.trans ((gs_fr hs4.1 rfl v1).symm.trans hs8.2.1.2.symm)); have g28 := i_eq (hs8.2.1.2.trans ((gs_fr hs8.1 rfl v1).symm.trans hs10.2.1.2.symm)); omega) (by have g0 := i_rg r9; have g1 := i_rg r7; have g2 := i_rg r3; have g3 := i_rg v2; have g4 := x_1; have g5 := x_2; have g6 := i_le c1; have g7 := i_nlt c2; have g8 := i_le c3; have g9 := i_nle c4; have g10 := p_t0; have g11 := i_rg t0; have g12 := i_rg v1; have g13 : (0 : Int32).toInt = 0 := rfl; have g14 : (9999 : Int32).toInt = 9999 := rfl; have g15 : (s14.1 1 r13.toNatClampNeg).toInt = (s12.1 1 r13.toNatClampNeg).toInt := j_fa hs14.1 r13.toNatClampNeg rfl; have g16 := i_rg (s14.1 1 r13.toNatClampNeg); have g17 : (s12.1 1 r13.toNatClampNeg).toInt = (s10.1 1 r13.toNatClampNeg).toInt := j_fa hs12.1 r13.toNatClampNeg rfl; have g18 := i_rg (s12.1 1 r13.toNatClampNeg); have g19 : (s10.1 1 r13.toNatClampNeg).toInt = (s8.1 1 r13.toNatClampNeg).toInt := j_fa hs10.1 r13.toNatClampNeg rfl; have g20 := i_rg (s10.1 1 r13.toNatClampNeg); have g21 : (s8.1 1 r13.toNatClampNeg).toInt = (s4.1 1 r13.toNatClampNeg).toInt := j_fa hs8.1 r13.toNatClampNeg rfl; have g22 := i_rg (s8.1 1 r13.toNatClampNeg); have g23 : (s4.1 1 r13.toNatClampNeg).toInt = (s.1 1 r13.toNatClampNeg).toInt := j_fa hs4.1 r13.toNatClampNeg rfl; have g24 := i_rg (s4.1 1 r13.toNatClampNeg); have g25 := i_rg (s.1 1 r13.toNatClampNeg); have g26 := l_32 r9; have g27 := i_eq (hs4.2.1.2.trans ((gs_fr hs4.1 rfl v1).symm.trans hs8.2.1.2.symm)); have g28 := i_eq (hs8.2.1.2.trans ((gs_fr hs8.1 rfl v1).symm.trans hs10.2.1.2.symm)); omega) (by have g0 := i_rg r9; have g1 := i_rg r7; have g2 := i_rg r3; have g3 := i_rg v2; have g4 := x_1; have g5 := x_2; have g6 := i_le c1; have g7 := i_nlt c2; have g8 := i_le c3; have g9 := i_nle c4; have g10 := p_t0; have g11 := i_rg t0; have g12 := i_rg v1; have g13 : (0 : Int32).toInt = 0 := rfl; have g14 : (9999 : Int32).toInt = 9999 := rfl; have g15 : (s14.1 1 r13.toNatClampNeg).toInt = (s12.1 1 r13.toNatClampNeg).toInt := j_fa hs14.1 r13.toNatClampNeg rfl; have g16 := i_rg (s14.1 1 r13.toNatClampNeg); have g17 : (s12.1 1 r13.toNatClampNeg).toInt = (s10.1 1 r13.toNatClampNeg).toInt := j_fa hs12.1 r13.toNatClampNeg rfl; have g18 := i_rg (s12.1 1 r13.toNatClampNeg); have g19 : (s10.1 1 r13.toNatClampNeg).toInt = (s8.1 1 r13.toNatClampNeg).toInt := j_fa hs10.1 r13.toNatClampNeg rfl; have g20 := i_rg (s10.1 1 r13.toNatClampNeg); have g21 : (s8.1 1 r13.toNatClampNeg).toInt = (s4.1 1 r13.toNatClampNeg).toInt := j_fa hs8.1 r13.toNatClampNeg rfl; have g22 := i_rg (s8.1 1 r13.toNatClampNeg); have g23 : (s4.1 1 r13.toNatClampNeg).toInt = (s.1 1 r13.toNatClampNeg).toInt := j_fa hs4.1 r13.toNatClampNeg rfl; have g24 := i_rg (s4.1 1 r13.toNatClampNeg); have g25 := i_rg (s.1 1 r13.toNatClampNeg); have g26 := l_32 r9; have g27 := i_eq (hs4.2.1.2.trans ((gs_fr hs4.1 rfl v1).symm.trans hs8.2.1.2.symm)); have g28 := i_eq (hs8.2.1.2.trans ((gs_fr hs8.1 rfl v1).symm.trans hs10.2.1.2.symm)); omega) (by have g0 := i_rg r9; have g1 := i_rg r7; have g2 := i_rg r3; have g3 := i_rg v2; have g4 := x_1; have g5 := x_2; have g6 := i_le c1; have g7 := i_nlt c2; have g8 := i_le c3; have g9 := i_nle c4; have g10 := p_t0; have g11 := i_rg t0; have g12 := i_rg v1; have g13 : (0 : Int32).toInt = 0 := rfl; have g14 : (9999 : Int32).toInt = 9999 := rfl; have g15 : (s14.1 1 r13.toNatClampNeg).toInt = (s12.1 1 r13.toNatClampNeg).toInt := j_fa hs14.1 r13.toNatClampNeg rfl; have g16 := i_rg (s14.1 1 r13.toNatClampNeg); have g17 : (s12.1 1 r13.toNatClampNeg).toInt = (s10.1 1 r13.toNatClampNeg).toInt := j_fa hs12.1 r13.toNatClampNeg rfl; have g18 := i_rg (s12.1 1 r13.toNatClampNeg); have g19 : (s10.1 1 r13.toNatClampNeg).toInt = (s8.1 1 r13.toNatClampNeg).toInt := j_fa hs10.1 r13.toNatClampNeg rfl; have g20 := i_rg (s10.1 1 r13.toNatClampNeg); have g21 : (s8.1 1 r13.toNatClampNeg).toInt = (s4.1 1 r13.toNatClampNeg).toInt := j_fa hs8.1 r13.toNatClampNeg rfl; have g22 := i_rg (s8.1 1 r13.toNatClampNeg); have g23 : (s4.1 1 r13.toNatClampNeg).toInt = (s.1 1 r13.toNatClampNeg).toInt := j_fa hs4.1 r13.toNatClampNeg rfl; have g24 := i_rg (s4.1 1 r13.toNatClampNeg); have g25 := i_rg (s.1 1 r13.toNatClampNeg); have g26 := l_32 r9; have g27 := i_eq (hs4.2.1.2.trans ((gs_fr hs4.1 rfl v1).symm.trans hs8.2.1.2.symm)); have g28 := i_eq (hs8.2.1.2.trans ((gs_fr hs8.1 rfl v1).symm.trans hs10.2.1.2.symm)); omega))) (fun r23 s24 hs24 => ?_)
          have js24 : JM 29360128 s0 s24 := j_call js14 hs24.1 rfl
          refine oq_c (b01_of (by have f0 := hs24.2.1; have f1 := i_rg r23; omega)) ?_
          exact ⟨js24, (by have f0 := hs24.2.1; have f1 := i_rg r23; omega), fun _ => trivial, fun _ => trivial⟩
      · refine oq_b (h_X12_is _ js8.1 (by have f0 : (7 : Int32).toInt = 7 := rfl; omega)) (fun r25 s26 hs26 => ?_)
        have js26 : JM 29360128 s0 s26 := j_call js8 hs26.1 rfl
        refine oq_c (b01_of (by have f0 := hs26.2.1; have f1 := i_rg r25; omega)) ?_
        exact ⟨js26, (by have f0 := hs26.2.1; have f1 := i_rg r25; omega), fun _ => trivial, fun w9 => False.elim (by have f0 := hs26.2.1; have f1 := i_rg r25; have f2 := i_ne w9; have f3 := (hs26.2.2.2 w9); have f4 : (0 : Int32).toInt = 0 := rfl; have f5 : (7 : Int32).toInt = 7 := rfl; omega)⟩
  · refine oq_b (h_X12_is _ hJ.1 (by have f0 := p_t0; have f1 := i_rg t0; have f2 := x_1; have f3 := x_2; have f4 := i_nle c1; have f5 := i_rg v2; have f6 := i_rg v1; have f7 : (0 : Int32).toInt = 0 := rfl; omega)) (fun r27 s28 hs28 => ?_)
    have js28 : JM 29360128 s0 s28 := j_call hJ hs28.1 rfl
    refine oq_c (b01_of (by have f0 := hs28.2.1; have f1 := i_rg r27; omega)) ?_
    exact ⟨js28, (by have f0 := hs28.2.1; have f1 := i_rg r27; omega), fun _ => trivial, fun w9 => False.elim (by have f0 := hs28.2.1; have f1 := i_rg r27; have f2 := i_ne w9; have f3 : (0 : Int32).toInt = 0 := rfl; omega)⟩
theorem h_X12_found (a1 : Int32) (a2 : Int32) {s : Sg} (hR : Rg rM s) : OQ (f_X12_found a1 a2 s) (fun r9 s9 => JM 29360128 s s9 ∧ (0 ≤ r9.toInt ∧ r9.toInt ≤ 1) ∧ (r9 = 0 → True) ∧ (¬ r9 = 0 → True)) := by
  have hJ : JM 29360128 s s := j_refl hR
  unfold f_X12_found
  refine oq_b (h_X12_isFrom _ _ _ hJ.1) (fun r1 s2 hs2 => ?_)
  have js2 : JM 29360128 s s2 := j_call hJ hs2.1 rfl
  refine oq_if (fun c1 => ?_) (fun c1 => ?_)
  · exact h_X12_found_b21 _ _ _ _ js2 (by have f0 : (1 : Int32).toInt = 1 := rfl; omega) (by have g0 : (1 : Int32).toInt = 1 := rfl; have g1 := i_rg a2; omega) (by have g0 : (1 : Int32).toInt = 1 := rfl; have g1 := i_rg a1; omega)
  · refine oq_b (h_X12_wrongStep _ js2.1) (fun r29 s30 hs30 => ?_)
    have js30 : JM 29360128 s s30 := j_call js2 hs30.1 rfl
    exact h_X12_found_b21 _ _ _ _ js30 (by have f0 := hs30.2.1; have f1 := i_rg r29; have f2 := hs30.2.1.2; have f3 := i_rg a1; omega) (by have g0 := hs30.2.1; have g1 := i_rg r29; have g2 := hs30.2.1.2; have g3 := i_rg a2; have g4 := i_rg a1; omega) (by have g0 := hs30.2.1; have g1 := i_rg r29; have g2 := hs30.2.1.2; have g3 := i_rg a1; omega)
theorem h_X12_draw  {s : Sg} (hR : Rg rM s) : OQ (f_X12_draw  s) (fun r9 s9 => JM 562949953421312 s s9 ∧ True ∧ (r9 = 0 → True) ∧ (¬ r9 = 0 → True)) := by
  have hJ : JM 562949953421312 s s := j_refl hR
  unfold f_X12_draw
  refine oq_n (fun s1 es1 => ?_)
  have js1 : JM 562949953421312 s s1 := by rw [es1]; exact (j_wf hJ rfl 49 rfl rfl)
  exact ⟨js1, trivial, fun _ => trivial, fun _ => trivial⟩
theorem h_X12_does (a1 : Int32) {s : Sg} (hR : Rg rM s) (hB : RowM s) (p_a1 : 110 ≤ a1.toInt ∧ a1.toInt ≤ 464) (x_1 : (110 ≤ a1.toInt ∧ (a1.toInt - 110) % 6 = 0 ∧ a1.toInt < 110 + 6 * (s.1 1 11).toInt)) : OQ (f_X12_does a1 s) (fun r9 s9 => JM 6474807838375122307074 s s9 ∧ (0 ≤ r9.toInt ∧ r9.toInt ≤ 1) ∧ (r9 = 0 → True) ∧ (¬ r9 = 0 → True)) := by
  have hJ : JM 6474807838375122307074 s s := j_refl hR
  unfold f_X12_does
  have hk := row_at hB hR a1 x_1
  refine oq_c (inr_of (by have f0 := i_add (a1) ((1 : Int32)); have f1 := p_a1; have f2 := i_rg a1; have f3 : (1 : Int32).toInt = 1 := rfl; have f4 := x_1; have f5 := j_rd hJ 1 11 (-1) 60 rfl; omega)) ?_
  refine oq_n (fun x2 ex2 => ?_)
  refine oq_c (inr_of (by have f0 := i_add (a1) ((2 : Int32)); have f1 := p_a1; have f2 := i_rg a1; have f3 : (2 : Int32).toInt = 2 := rfl; have f4 := x_1; have f5 := j_rd hJ 1 11 (-1) 60 rfl; omega)) ?_
  refine oq_n (fun x4 ex4 => ?_)
  refine oq_c (inr_of (by have f0 := p_a1; have f1 := i_rg a1; have f2 := x_1; have f3 := j_rd hJ 1 11 (-1) 60 rfl; omega)) ?_
  refine oq_if (fun c1 => ?_) (fun c1 => ?_)
  · refine oq_b (h_X12_draw  hJ.1) (fun r6 s7 hs7 => ?_)
    have js7 : JM 6474807838375122307074 s s7 := j_call hJ hs7.1 rfl
    refine oq_if (fun c2 => ?_) (fun c2 => ?_)
    · refine oq_b (h_X12_rains  js7.1) (fun r8 s9 hs9 => ?_)
      have js9 : JM 6474807838375122307074 s s9 := j_call js7 hs9.1 rfl
      exact ⟨(j_wf js9 rfl 11 rfl rfl), (by have f0 : (1 : Int32).toInt = 1 := rfl; omega), fun w9 => absurd w9 (by decide), fun _ => trivial⟩
    · exact ⟨js7, (by have f0 : (1 : Int32).toInt = 1 := rfl; omega), fun w9 => absurd w9 (by decide), fun _ => trivial⟩
  · refine oq_if (fun c3 => ?_) (fun c3 => ?_)
    · exact ⟨hJ, (by have f0 : (1 : Int32).toInt = 1 := rfl; omega), fun w9 => absurd w9 (by decide), fun _ => trivial⟩
    · refine oq_if (fun c4 => ?_) (fun c4 => ?_)
      · exact ⟨hJ, (by have f0 : (1 : Int32).toInt = 1 := rfl; omega), fun w9 => absurd w9 (by decide), fun _ => trivial⟩
      · refine oq_if (fun c5 => ?_) (fun c5 => ?_)
        · exact ⟨hJ, (by have f0 : (1 : Int32).toInt = 1 := rfl; omega), fun w9 => absurd w9 (by decide), fun _ => trivial⟩
        · refine oq_if (fun c6 => ?_) (fun c6 => ?_)
          · exact ⟨hJ, (by have f0 : (1 : Int32).toInt = 1 := rfl; omega), fun w9 => absurd w9 (by decide), fun _ => trivial⟩
          · refine oq_if (fun c7 => ?_) (fun c7 => ?_)
            · exact ⟨hJ, (by have f0 : (1 : Int32).toInt = 1 := rfl; omega), fun w9 => absurd w9 (by decide), fun _ => trivial⟩
            · refine oq_if (fun c8 => ?_) (fun c8 => ?_)
              · exact ⟨hJ, (by have f0 : (1 : Int32).toInt = 1 := rfl; omega), fun w9 => absurd w9 (by decide), fun _ => trivial⟩
              · refine oq_if (fun c9 => ?_) (fun c9 => ?_)
                · exact ⟨hJ, (by have f0 : (1 : Int32).toInt = 1 := rfl; omega), fun w9 => absurd w9 (by decide), fun _ => trivial⟩
                · refine oq_if (fun c10 => ?_) (fun c10 => ?_)
                  · exact ⟨hJ, (by have f0 : (1 : Int32).toInt = 1 := rfl; omega), fun w9 => absurd w9 (by decide), fun _ => trivial⟩
                  · refine oq_if (fun c11 => ?_) (fun c11 => ?_)
                    · exact ⟨hJ, (by have f0 : (1 : Int32).toInt = 1 := rfl; omega), fun w9 => absurd w9 (by decide), fun _ => trivial⟩
                    · refine oq_if (fun c12 => ?_) (fun c12 => ?_)
                      · exact ⟨hJ, (by have f0 : (1 : Int32).toInt = 1 := rfl; omega), fun w9 => absurd w9 (by decide), fun _ => trivial⟩
                      · refine oq_if (fun c13 => ?_) (fun c13 => ?_)
                        · exact ⟨hJ, (by have f0 : (1 : Int32).toInt = 1 := rfl; omega), fun w9 => absurd w9 (by decide), fun _ => trivial⟩
                        · refine oq_if (fun c14 => ?_) (fun c14 => ?_)
                          · exact ⟨hJ, (by have f0 : (1 : Int32).toInt = 1 := rfl; omega), fun w9 => absurd w9 (by decide), fun _ => trivial⟩
                          · refine oq_if (fun c15 => ?_) (fun c15 => ?_)
                            · exact ⟨hJ, (by have f0 : (1 : Int32).toInt = 1 := rfl; omega), fun w9 => absurd w9 (by decide), fun _ => trivial⟩
                            · refine oq_if (fun c16 => ?_) (fun c16 => ?_)
                              · exact ⟨hJ, (by have f0 : (1 : Int32).toInt = 1 := rfl; omega), fun w9 => absurd w9 (by decide), fun _ => trivial⟩
                              · refine oq_if (fun c17 => ?_) (fun c17 => ?_)
                                · refine oq_b (h_X12_hasRoom _ _ hJ.1 (by have f0 := i_eq ex2; have f1 := i_rg x2; have f2 := rd_one hJ ((a1 + 1).toNatClampNeg) (by have d0 := i_add (a1) ((1 : Int32)); have d1 := p_a1; have d2 := i_rg a1; have d3 : (1 : Int32).toInt = 1 := rfl; have d4 := x_1; have d5 := j_rd hJ 1 11 (-1) 60 rfl; have d6 := cl_nat (a1 + 1); omega); have f3 := hk; have f4 := i_ne c1; have f5 := i_ne c3; have f6 := i_ne c4; have f7 := i_ne c5; have f8 := i_ne c6; have f9 := i_ne c7; have f10 := i_ne c8; have f11 := i_ne c9; have f12 := i_ne c10; have f13 := i_ne c11; have f14 := i_ne c12; have f15 := i_ne c13; have f16 := i_ne c14; have f17 := i_ne c15; have f18 := i_ne c16; have f19 := i_eq c17; have f20 := i_rg (s.1 1 a1.toNatClampNeg); have f21 := rd_tri hJ ((a1 + 3).toNatClampNeg) (by have d0 := i_add (a1) ((3 : Int32)); have d1 := p_a1; have d2 := i_rg a1; have d3 : (3 : Int32).toInt = 3 := rfl; have d4 := x_1; have d5 := j_rd hJ 1 11 (-1) 60 rfl; have d6 := cl_nat (a1 + 3); omega); have f22 : (4 : Int32).toInt = 4 := rfl; have f23 : (5 : Int32).toInt = 5 := rfl; have f24 : (6 : Int32).toInt = 6 := rfl; have f25 : (7 : Int32).toInt = 7 := rfl; have f26 : (8 : Int32).toInt = 8 := rfl; have f27 : (9 : Int32).toInt = 9 := rfl; have f28 : (10 : Int32).toInt = 10 := rfl; have f29 : (11 : Int32).toInt = 11 := rfl; have f30 : (12 : Int32).toInt = 12 := rfl; have f31 : (13 : Int32).toInt = 13 := rfl; have f32 : (14 : Int32).toInt = 14 := rfl; have f33 : (15 : Int32).toInt = 15 := rfl; have f34 : (16 : Int32).toInt = 16 := rfl; have f35 : (17 : Int32).toInt = 17 := rfl; have f36 : (18 : Int32).toInt = 18 := rfl; have f37 : (19 : Int32).toInt = 19 := rfl; omega)) (fun r10 s11 hs11 => ?_)
                                  have js11 : JM 6474807838375122307074 s s11 := j_call hJ hs11.1 rfl
                                  refine oq_if (fun c18 => ?_) (fun c18 => ?_)
                                  · exact ⟨js11, (by have f0 : (0 : Int32).toInt = 0 := rfl; omega), fun _ => trivial, fun w9 => absurd rfl w9⟩
                                  · refine oq_b (h_X12_strews _ _ js11.1 (by have f0 := i_eq ex2; have f1 := i_rg x2; have f2 := rd_one hJ ((a1 + 1).toNatClampNeg) (by have d0 := i_add (a1) ((1 : Int32)); have d1 := p_a1; have d2 := i_rg a1; have d3 : (1 : Int32).toInt = 1 := rfl; have d4 := x_1; have d5 := j_rd hJ 1 11 (-1) 60 rfl; have d6 := cl_nat (a1 + 1); omega); have f3 := hk; have f4 := i_ne c1; have f5 := i_ne c3; have f6 := i_ne c4; have f7 := i_ne c5; have f8 := i_ne c6; have f9 := i_ne c7; have f10 := i_ne c8; have f11 := i_ne c9; have f12 := i_ne c10; have f13 := i_ne c11; have f14 := i_ne c12; have f15 := i_ne c13; have f16 := i_ne c14; have f17 := i_ne c15; have f18 := i_ne c16; have f19 := i_eq c17; have f20 := i_rg (s.1 1 a1.toNatClampNeg); have f21 := rd_tri hJ ((a1 + 3).toNatClampNeg) (by have d0 := i_add (a1) ((3 : Int32)); have d1 := p_a1; have d2 := i_rg a1; have d3 : (3 : Int32).toInt = 3 := rfl; have d4 := x_1; have d5 := j_rd hJ 1 11 (-1) 60 rfl; have d6 := cl_nat (a1 + 3); omega); have f22 : (4 : Int32).toInt = 4 := rfl; have f23 : (5 : Int32).toInt = 5 := rfl; have f24 : (6 : Int32).toInt = 6 := rfl; have f25 : (7 : Int32).toInt = 7 := rfl; have f26 : (8 : Int32).toInt = 8 := rfl; have f27 : (9 : Int32).toInt = 9 := rfl; have f28 : (10 : Int32).toInt = 10 := rfl; have f29 : (11 : Int32).toInt = 11 := rfl; have f30 : (12 : Int32).toInt = 12 := rfl; have f31 : (13 : Int32).toInt = 13 := rfl; have f32 : (14 : Int32).toInt = 14 := rfl; have f33 : (15 : Int32).toInt = 15 := rfl; have f34 : (16 : Int32).toInt = 16 := rfl; have f35 : (17 : Int32).toInt = 17 := rfl; have f36 : (18 : Int32).toInt = 18 := rfl; have f37 : (19 : Int32).toInt = 19 := rfl; omega)) (fun u19 s13 hs13 => ?_)
                                    have js13 : JM 6474807838375122307074 s s13 := j_call js11 hs13.1 rfl
                                    exact ⟨js13, (by have f0 : (1 : Int32).toInt = 1 := rfl; omega), fun w9 => absurd w9 (by decide), fun _ => trivial⟩
                                · refine oq_if (fun c20 => ?_) (fun c20 => ?_)
                                  · refine oq_b (h_X12_hasRoom _ _ hJ.1 (by have f0 := i_eq ex2; have f1 := i_rg x2; have f2 := rd_one hJ ((a1 + 1).toNatClampNeg) (by have d0 := i_add (a1) ((1 : Int32)); have d1 := p_a1; have d2 := i_rg a1; have d3 : (1 : Int32).toInt = 1 := rfl; have d4 := x_1; have d5 := j_rd hJ 1 11 (-1) 60 rfl; have d6 := cl_nat (a1 + 1); omega); have f3 := hk; have f4 := i_ne c1; have f5 := i_ne c3; have f6 := i_ne c4; have f7 := i_ne c5; have f8 := i_ne c6; have f9 := i_ne c7; have f10 := i_ne c8; have f11 := i_ne c9; have f12 := i_ne c10; have f13 := i_ne c11; have f14 := i_ne c12; have f15 := i_ne c13; have f16 := i_ne c14; have f17 := i_ne c15; have f18 := i_ne c16; have f19 := i_ne c17; have f20 := i_eq c20; have f21 := i_rg (s.1 1 a1.toNatClampNeg); have f22 := rd_tri hJ ((a1 + 3).toNatClampNeg) (by have d0 := i_add (a1) ((3 : Int32)); have d1 := p_a1; have d2 := i_rg a1; have d3 : (3 : Int32).toInt = 3 := rfl; have d4 := x_1; have d5 := j_rd hJ 1 11 (-1) 60 rfl; have d6 := cl_nat (a1 + 3); omega); have f23 : (4 : Int32).toInt = 4 := rfl; have f24 : (5 : Int32).toInt = 5 := rfl; have f25 : (6 : Int32).toInt = 6 := rfl; have f26 : (7 : Int32).toInt = 7 := rfl; have f27 : (8 : Int32).toInt = 8 := rfl; have f28 : (9 : Int32).toInt = 9 := rfl; have f29 : (10 : Int32).toInt = 10 := rfl; have f30 : (11 : Int32).toInt = 11 := rfl; have f31 : (12 : Int32).toInt = 12 := rfl; have f32 : (13 : Int32).toInt = 13 := rfl; have f33 : (14 : Int32).toInt = 14 := rfl; have f34 : (15 : Int32).toInt = 15 := rfl; have f35 : (16 : Int32).toInt = 16 := rfl; have f36 : (17 : Int32).toInt = 17 := rfl; have f37 : (18 : Int32).toInt = 18 := rfl; have f38 : (19 : Int32).toInt = 19 := rfl; have f39 : (20 : Int32).toInt = 20 := rfl; omega)) (fun r14 s15 hs15 => ?_)
                                    have js15 : JM 6474807838375122307074 s s15 := j_call hJ hs15.1 rfl
                                    refine oq_if (fun c21 => ?_) (fun c21 => ?_)
                                    · exact ⟨js15, (by have f0 : (0 : Int32).toInt = 0 := rfl; omega), fun _ => trivial, fun w9 => absurd rfl w9⟩
                                    · refine oq_c (inr_of (by have f0 := i_add (a1) ((3 : Int32)); have f1 := p_a1; have f2 := i_rg a1; have f3 : (3 : Int32).toInt = 3 := rfl; have f4 := x_1; have f5 := j_rd hJ 1 11 (-1) 60 rfl; omega)) ?_
                                      refine oq_c (inr_of (by have f0 := i_mul ((3 : Int32)) (s15.1 1 ((a1 + 3).toNatClampNeg)); have f1 := i_add ((92 : Int32)) (3 * (s15.1 1 ((a1 + 3).toNatClampNeg))); have f2 : (92 : Int32).toInt = 92 := rfl; have f3 : (3 : Int32).toInt = 3 := rfl; have f4 := rd_tri js15 ((a1 + 3).toNatClampNeg) (by have d0 := i_add (a1) ((3 : Int32)); have d1 := p_a1; have d2 := i_rg a1; have d3 : (3 : Int32).toInt = 3 := rfl; have d4 := x_1; have d5 := j_rd hJ 1 11 (-1) 60 rfl; have d6 := cl_nat (a1 + 3); omega); omega)) ?_
                                      refine oq_if (fun c22 => ?_) (fun c22 => ?_)
                                      · refine oq_b (h_X12_buys _ _ _ js15.1 (by have f0 := rd_tri js15 ((a1 + 3).toNatClampNeg) (by have d0 := i_add (a1) ((3 : Int32)); have d1 := p_a1; have d2 := i_rg a1; have d3 : (3 : Int32).toInt = 3 := rfl; have d4 := x_1; have d5 := j_rd hJ 1 11 (-1) 60 rfl; have d6 := cl_nat (a1 + 3); omega); have f1 : (s15.1 1 ((a1 + 3).toNatClampNeg)).toInt = (s.1 1 ((a1 + 3).toNatClampNeg)).toInt := j_fa hs15.1 ((a1 + 3).toNatClampNeg) rfl; have f2 := rd_tri hJ ((a1 + 3).toNatClampNeg) (by have d0 := i_add (a1) ((3 : Int32)); have d1 := p_a1; have d2 := i_rg a1; have d3 : (3 : Int32).toInt = 3 := rfl; have d4 := x_1; have d5 := j_rd hJ 1 11 (-1) 60 rfl; have d6 := cl_nat (a1 + 3); omega); have f3 := hk; have f4 := i_ne c1; have f5 := i_ne c3; have f6 := i_ne c4; have f7 := i_ne c5; have f8 := i_ne c6; have f9 := i_ne c7; have f10 := i_ne c8; have f11 := i_ne c9; have f12 := i_ne c10; have f13 := i_ne c11; have f14 := i_ne c12; have f15 := i_ne c13; have f16 := i_ne c14; have f17 := i_ne c15; have f18 := i_ne c16; have f19 := i_ne c17; have f20 := i_eq c20; have f21 := i_rg (s.1 1 a1.toNatClampNeg); have f22 := rd_one hJ ((a1 + 1).toNatClampNeg) (by have d0 := i_add (a1) ((1 : Int32)); have d1 := p_a1; have d2 := i_rg a1; have d3 : (1 : Int32).toInt = 1 := rfl; have d4 := x_1; have d5 := j_rd hJ 1 11 (-1) 60 rfl; have d6 := cl_nat (a1 + 1); omega); have f23 : (4 : Int32).toInt = 4 := rfl; have f24 : (5 : Int32).toInt = 5 := rfl; have f25 : (6 : Int32).toInt = 6 := rfl; have f26 : (7 : Int32).toInt = 7 := rfl; have f27 : (8 : Int32).toInt = 8 := rfl; have f28 : (9 : Int32).toInt = 9 := rfl; have f29 : (10 : Int32).toInt = 10 := rfl; have f30 : (11 : Int32).toInt = 11 := rfl; have f31 : (12 : Int32).toInt = 12 := rfl; have f32 : (13 : Int32).toInt = 13 := rfl; have f33 : (14 : Int32).toInt = 14 := rfl; have f34 : (15 : Int32).toInt = 15 := rfl; have f35 : (16 : Int32).toInt = 16 := rfl; have f36 : (17 : Int32).toInt = 17 := rfl; have f37 : (18 : Int32).toInt = 18 := rfl; have f38 : (19 : Int32).toInt = 19 := rfl; have f39 : (20 : Int32).toInt = 20 := rfl; omega) (by have f0 := i_eq ex2; have f1 := i_rg x2; have f2 := rd_one hJ ((a1 + 1).toNatClampNeg) (by have d0 := i_add (a1) ((1 : Int32)); have d1 := p_a1; have d2 := i_rg a1; have d3 : (1 : Int32).toInt = 1 := rfl; have d4 := x_1; have d5 := j_rd hJ 1 11 (-1) 60 rfl; have d6 := cl_nat (a1 + 1); omega); have f3 := hk; have f4 := i_ne c1; have f5 := i_ne c3; have f6 := i_ne c4; have f7 := i_ne c5; have f8 := i_ne c6; have f9 := i_ne c7; have f10 := i_ne c8; have f11 := i_ne c9; have f12 := i_ne c10; have f13 := i_ne c11; have f14 := i_ne c12; have f15 := i_ne c13; have f16 := i_ne c14; have f17 := i_ne c15; have f18 := i_ne c16; have f19 := i_ne c17; have f20 := i_eq c20; have f21 := i_rg (s.1 1 a1.toNatClampNeg); have f22 := rd_tri hJ ((a1 + 3).toNatClampNeg) (by have d0 := i_add (a1) ((3 : Int32)); have d1 := p_a1; have d2 := i_rg a1; have d3 : (3 : Int32).toInt = 3 := rfl; have d4 := x_1; have d5 := j_rd hJ 1 11 (-1) 60 rfl; have d6 := cl_nat (a1 + 3); omega); have f23 : (4 : Int32).toInt = 4 := rfl; have f24 : (5 : Int32).toInt = 5 := rfl; have f25 : (6 : Int32).toInt = 6 := rfl; have f26 : (7 : Int32).toInt = 7 := rfl; have f27 : (8 : Int32).toInt = 8 := rfl; have f28 : (9 : Int32).toInt = 9 := rfl; have f29 : (10 : Int32).toInt = 10 := rfl; have f30 : (11 : Int32).toInt = 11 := rfl; have f31 : (12 : Int32).toInt = 12 := rfl; have f32 : (13 : Int32).toInt = 13 := rfl; have f33 : (14 : Int32).toInt = 14 := rfl; have f34 : (15 : Int32).toInt = 15 := rfl; have f35 : (16 : Int32).toInt = 16 := rfl; have f36 : (17 : Int32).toInt = 17 := rfl; have f37 : (18 : Int32).toInt = 18 := rfl; have f38 : (19 : Int32).toInt = 19 := rfl; have f39 : (20 : Int32).toInt = 20 := rfl; omega)) (fun r18 s19 hs19 => ?_)
                                        have js19 : JM 6474807838375122307074 s s19 := j_call js15 hs19.1 rfl
                                        exact ⟨js19, (by have f0 : (1 : Int32).toInt = 1 := rfl; omega), fun w9 => absurd w9 (by decide), fun _ => trivial⟩
                                      · exact ⟨js15, (by have f0 : (0 : Int32).toInt = 0 := rfl; omega), fun _ => trivial, fun w9 => absurd rfl w9⟩
                                  · refine oq_if (fun c23 => ?_) (fun c23 => ?_)
                                    · refine oq_b (h_X12_sweeps _ hJ.1 (by have f0 := i_eq ex2; have f1 := i_rg x2; have f2 := rd_one hJ ((a1 + 1).toNatClampNeg) (by have d0 := i_add (a1) ((1 : Int32)); have d1 := p_a1; have d2 := i_rg a1; have d3 : (1 : Int32).toInt = 1 := rfl; have d4 := x_1; have d5 := j_rd hJ 1 11 (-1) 60 rfl; have d6 := cl_nat (a1 + 1); omega); have f3 := hk; have f4 := i_ne c1; have f5 := i_ne c3; have f6 := i_ne c4; have f7 := i_ne c5; have f8 := i_ne c6; have f9 := i_ne c7; have f10 := i_ne c8; have f11 := i_ne c9; have f12 := i_ne c10; have f13 := i_ne c11; have f14 := i_ne c12; have f15 := i_ne c13; have f16 := i_ne c14; have f17 := i_ne c15; have f18 := i_ne c16; have f19 := i_ne c17; have f20 := i_ne c20; have f21 := i_eq c23; have f22 := i_rg (s.1 1 a1.toNatClampNeg); have f23 := rd_tri hJ ((a1 + 3).toNatClampNeg) (by have d0 := i_add (a1) ((3 : Int32)); have d1 := p_a1; have d2 := i_rg a1; have d3 : (3 : Int32).toInt = 3 := rfl; have d4 := x_1; have d5 := j_rd hJ 1 11 (-1) 60 rfl; have d6 := cl_nat (a1 + 3); omega); have f24 : (4 : Int32).toInt = 4 := rfl; have f25 : (5 : Int32).toInt = 5 := rfl; have f26 : (6 : Int32).toInt = 6 := rfl; have f27 : (7 : Int32).toInt = 7 := rfl; have f28 : (8 : Int32).toInt = 8 := rfl; have f29 : (9 : Int32).toInt = 9 := rfl; have f30 : (10 : Int32).toInt = 10 := rfl; have f31 : (11 : Int32).toInt = 11 := rfl; have f32 : (12 : Int32).toInt = 12 := rfl; have f33 : (13 : Int32).toInt = 13 := rfl; have f34 : (14 : Int32).toInt = 14 := rfl; have f35 : (15 : Int32).toInt = 15 := rfl; have f36 : (16 : Int32).toInt = 16 := rfl; have f37 : (17 : Int32).toInt = 17 := rfl; have f38 : (18 : Int32).toInt = 18 := rfl; have f39 : (19 : Int32).toInt = 19 := rfl; have f40 : (20 : Int32).toInt = 20 := rfl; have f41 : (21 : Int32).toInt = 21 := rfl; omega)) (fun r20 s21 hs21 => ?_)
                                      have js21 : JM 6474807838375122307074 s s21 := j_call hJ hs21.1 rfl
                                      refine oq_if (fun c24 => ?_) (fun c24 => ?_)
                                      · exact ⟨js21, (by have f0 : (0 : Int32).toInt = 0 := rfl; omega), fun _ => trivial, fun w9 => absurd rfl w9⟩
                                      · exact ⟨js21, (by have f0 : (1 : Int32).toInt = 1 := rfl; omega), fun w9 => absurd w9 (by decide), fun _ => trivial⟩
                                    · refine oq_if (fun c25 => ?_) (fun c25 => ?_)
                                      · refine oq_b (h_X12_snows _ hJ.1) (fun u26 s23 hs23 => ?_)
                                        have js23 : JM 6474807838375122307074 s s23 := j_call hJ hs23.1 rfl
                                        exact ⟨js23, (by have f0 : (1 : Int32).toInt = 1 := rfl; omega), fun w9 => absurd w9 (by decide), fun _ => trivial⟩
                                      · refine oq_if (fun c27 => ?_) (fun c27 => ?_)
                                        · refine oq_if (fun c28 => ?_) (fun c28 => ?_)
                                          · exact ⟨hJ, (by have f0 : (0 : Int32).toInt = 0 := rfl; omega), fun _ => trivial, fun w9 => absurd rfl w9⟩
                                          · refine oq_b (h_X12_nightGoes  hJ.1) (fun u29 s25 hs25 => ?_)
                                            have js25 : JM 6474807838375122307074 s s25 := j_call hJ hs25.1 rfl
                                            refine oq_n (fun s26 es26 => ?_)
                                            have js26 : JM 6474807838375122307074 s s26 := by rw [es26]; exact (j_wf js25 rfl 11 rfl rfl)
                                            refine oq_n (fun s27 es27 => ?_)
                                            have js27 : JM 6474807838375122307074 s s27 := by rw [es27]; exact (j_wf js26 rfl 11 rfl rfl)
                                            exact ⟨js27, (by have f0 : (1 : Int32).toInt = 1 := rfl; omega), fun w9 => absurd w9 (by decide), fun _ => trivial⟩
                                        · exact ⟨hJ, (by have f0 : (1 : Int32).toInt = 1 := rfl; omega), fun w9 => absurd w9 (by decide), fun _ => trivial⟩
theorem h_X12_behindEnds_b95 {s0 : Sg} (k : Int32 → Sg → Option (Int32 × Sg)) (m : Nat) (hk : ∀ (v2 : Int32) (s : Sg), JM 1024 s0 s → 0 ≤ v2.toInt ∧ v2.toInt ≤ 60 → 100 * sumR s 80 + 60 - v2.toInt < (m : Int) → OQ (k v2 s) (fun r9 s9 => JM 1024 s0 s9 ∧ (0 ≤ r9.toInt ∧ r9.toInt ≤ 60) ∧ (r9 = 0 → True) ∧ (¬ r9 = 0 → True))) (v2 v3 v4 t0 t1 t2 : Int32) (s : Sg) (hJ : JM 1024 s0 s) (h2 : 0 ≤ v2.toInt ∧ v2.toInt ≤ 59) (h3 : 0 ≤ v3.toInt ∧ v3.toInt ≤ 59) (ht2 : t2 = v3) (ht1 : t1 = s.1 10 v3.toNatClampNeg) (h4 : (v4 = 0 ∧ t0 = 0) ∨ (v4 = 1 ∧ t0 = 1 ∧ 1 ≤ t1.toInt)) (hm : 100 * sumR s 80 + 60 - v2.toInt < (m : Int) + 1) : OQ (f_X12_behindEnds_b95 k v2 v3 v4 t0 t1 t2 s) (fun r9 s9 => JM 1024 s0 s9 ∧ (0 ≤ r9.toInt ∧ r9.toInt ≤ 60) ∧ (r9 = 0 → True) ∧ (¬ r9 = 0 → True)) := by
  unfold f_X12_behindEnds_b95
  subst ht2
  have c3 := cl_nat t2
  have r1 : -2 ≤ (s.1 10 t2.toNatClampNeg).toInt ∧ (s.1 10 t2.toNatClampNeg).toInt ≤ 98 := hJ.1 10 _
  have sb := i_sub t1 t0
  have su := sumR_u (s := s) (i := t2.toNatClampNeg) (v := t1 - t0) 80 (by omega)
  have e0 : (0 : Int32).toInt = 0 := rfl
  have e1 : (1 : Int32).toInt = 1 := rfl
  have a2 := i_add v2 1
  have a3 := i_add t2 1
  have f1 := i_eq ht1
  refine oq_c (inr_of ⟨by omega, by omega⟩) ?_
  rcases h4 with ⟨f4, f0⟩ | ⟨f4, f0, f5⟩
  · subst f4; subst f0
    have j : JM 1024 s0 (pI s 10 t2.toNatClampNeg (t1 - 0)) := j_wr (-2) 98 hJ rfl 10 rfl rfl (by omega)
    refine oq_n (fun s8 e8 => ?_)
    rw [e8, if_pos rfl]
    exact hk (v2 + 1) _ j (by omega) (by omega)
  · subst f4; subst f0
    have j : JM 1024 s0 (pI s 10 t2.toNatClampNeg (t1 - 1)) := j_wr (-2) 98 hJ rfl 10 rfl rfl (by omega)
    refine oq_n (fun s8 e8 => ?_)
    rw [e8, if_neg (by decide)]
    exact hk (t2 + 1) _ j (by omega) (by omega)
theorem h_X12_behindEnds_b2 {s0 : Sg} (n : Nat) : ∀ (v2 : Int32) (s : Sg), JM 1024 s0 s → 0 ≤ v2.toInt ∧ v2.toInt ≤ 60 → 100 * sumR s 80 + 60 - v2.toInt < (n : Int) → OQ (f_X12_behindEnds_b2 n v2 s) (fun r9 s9 => JM 1024 s0 s9 ∧ (0 ≤ r9.toInt ∧ r9.toInt ≤ 60) ∧ (r9 = 0 → True) ∧ (¬ r9 = 0 → True)) := by
  induction n with
  | zero =>
    intro v2 s hJ h2 hn
    exact False.elim (by have := sumR_b hJ.1 80; omega)
  | succ n ih =>
    intro v2 s hJ h2 hn
    unfold f_X12_behindEnds_b2
    have r11 : -1 ≤ (s.1 1 11).toInt ∧ (s.1 1 11).toInt ≤ 60 := hJ.1 1 11
    have e6 : (6 : Int32).toInt = 6 := rfl
    have e110 : (110 : Int32).toInt = 110 := rfl
    have e4 : (4 : Int32).toInt = 4 := rfl
    have e0 : (0 : Int32).toInt = 0 := rfl
    refine oq_if (fun c => ?_) (fun c => ?_)
    · exact ⟨hJ, h2, fun _ => trivial, fun _ => trivial⟩
    · have c' := i_nle c
      have m2 := i_mul 6 v2
      rw [e6] at m2
      have p2 := i_add 110 (6 * v2)
      have p4 := i_add (110 + 6 * v2) 4
      refine oq_c (inr_of ⟨by omega, by omega⟩) ?_
      refine oq_if (fun c2 => ?_) (fun c2 => ?_)
      · refine oq_c (inr_of ⟨by omega, by omega⟩) ?_
        refine oq_n (fun x3 ex => ?_)
        have cl4 := cl_nat ((110 + (6 * v2)) + 4)
        have r3 : 0 ≤ x3.toInt ∧ x3.toInt ≤ 59 := by rw [ex]; exact rd_par hJ _ (by omega)
        have m3 := i_mul 6 x3
        rw [e6] at m3
        have p3 := i_add 110 (6 * x3)
        have cx := cl_nat x3
        have A : OQ (f_X12_behindEnds_b75 (f_X12_behindEnds_b2 n) v2 x3 s) (fun r9 s9 => JM 1024 s0 s9 ∧ (0 ≤ r9.toInt ∧ r9.toInt ≤ 60) ∧ (r9 = 0 → True) ∧ (¬ r9 = 0 → True)) := by
          unfold f_X12_behindEnds_b75 f_X12_behindEnds_b76
          refine oq_c (inr_of ⟨by omega, by omega⟩) ?_
          rw [if_pos rfl]
          exact h_X12_behindEnds_b95 _ n ih v2 x3 0 0 _ x3 s hJ (by omega) r3 rfl rfl (Or.inl ⟨rfl, rfl⟩) (by omega)
        refine oq_c (inr_of ⟨by omega, by omega⟩) ?_
        refine oq_if (fun c3 => ?_) (fun c3 => A)
        refine oq_c (inr_of ⟨by omega, by omega⟩) ?_
        refine oq_if (fun c4 => A) (fun c4 => ?_)
        have c4' := i_nle c4
        unfold f_X12_behindEnds_b76
        refine oq_c (inr_of ⟨by omega, by omega⟩) ?_
        rw [if_neg (by decide)]
        exact h_X12_behindEnds_b95 _ n ih v2 x3 1 1 _ x3 s hJ (by omega) r3 rfl rfl (Or.inr ⟨rfl, rfl, by omega⟩) (by omega)
      · exact ⟨hJ, h2, fun _ => trivial, fun _ => trivial⟩
theorem h_X12_behindEnds (a1 : Int32) {s : Sg} (hR : Rg rM s) (p_a1 : 1 ≤ a1.toInt ∧ a1.toInt ≤ 60) : OQ (f_X12_behindEnds a1 s) (fun r9 s9 => JM 1024 s s9 ∧ (0 ≤ r9.toInt ∧ r9.toInt ≤ 60) ∧ (r9 = 0 → True) ∧ (¬ r9 = 0 → True)) := by
  unfold f_X12_behindEnds
  have q := sumR_b hR 80
  have b : BIG = 4294967296 := rfl
  exact h_X12_behindEnds_b2 BIG a1 s (j_refl hR) (by omega) (by omega)
theorem h_X12_holds (a1 : Int32) {s : Sg} (hR : Rg rM s) (hB : RowM s) (p_a1 : 110 ≤ a1.toInt ∧ a1.toInt ≤ 464) (x_1 : (110 ≤ a1.toInt ∧ (a1.toInt - 110) % 6 = 0 ∧ a1.toInt < 110 + 6 * (s.1 1 11).toInt)) : OQ (f_X12_holds a1 s) (fun r9 s9 => JM 0 s s9 ∧ (0 ≤ r9.toInt ∧ r9.toInt ≤ 1) ∧ (r9 = 0 → True) ∧ (¬ r9 = 0 → True)) := by
  have hJ : JM 0 s s := j_refl hR
  unfold f_X12_holds
  have hk := row_at hB hR a1 x_1
  refine oq_c (inr_of (by have f0 := p_a1; have f1 := i_rg a1; have f2 := x_1; have f3 := j_rd hJ 1 11 (-1) 60 rfl; omega)) ?_
  refine oq_n (fun x2 ex2 => ?_)
  refine oq_c (inr_of (by have f0 := i_add (a1) ((1 : Int32)); have f1 := p_a1; have f2 := i_rg a1; have f3 : (1 : Int32).toInt = 1 := rfl; have f4 := x_1; have f5 := j_rd hJ 1 11 (-1) 60 rfl; omega)) ?_
  refine oq_n (fun x4 ex4 => ?_)
  refine oq_if (fun c1 => ?_) (fun c1 => ?_)
  · refine oq_b (h_X12_quarrelRow _ hJ.1 (by have f0 := i_eq ex4; have f1 := i_rg x4; have f2 := rd_one hJ ((a1 + 1).toNatClampNeg) (by have d0 := i_add (a1) ((1 : Int32)); have d1 := p_a1; have d2 := i_rg a1; have d3 : (1 : Int32).toInt = 1 := rfl; have d4 := x_1; have d5 := j_rd hJ 1 11 (-1) 60 rfl; have d6 := cl_nat (a1 + 1); omega); have f3 := hk; have f4 := i_rg (s.1 1 a1.toNatClampNeg); have f5 := rd_tri hJ ((a1 + 3).toNatClampNeg) (by have d0 := i_add (a1) ((3 : Int32)); have d1 := p_a1; have d2 := i_rg a1; have d3 : (3 : Int32).toInt = 3 := rfl; have d4 := x_1; have d5 := j_rd hJ 1 11 (-1) 60 rfl; have d6 := cl_nat (a1 + 3); omega); omega)) (fun r5 s6 hs6 => ?_)
    have js6 : JM 0 s s6 := j_call hJ hs6.1 rfl
    refine oq_c (inr_of (by have f0 := i_add (r5) ((3 : Int32)); have f1 := hs6.2.1; have f2 := i_rg r5; have f3 := hs6.2.1.2; have f4 : (3 : Int32).toInt = 3 := rfl; have f5 := i_eq ex4; have f6 := i_rg x4; have f7 := rd_one hJ ((a1 + 1).toNatClampNeg) (by have d0 := i_add (a1) ((1 : Int32)); have d1 := p_a1; have d2 := i_rg a1; have d3 : (1 : Int32).toInt = 1 := rfl; have d4 := x_1; have d5 := j_rd hJ 1 11 (-1) 60 rfl; have d6 := cl_nat (a1 + 1); omega); have f8 := hk; have f9 := i_rg (s.1 1 a1.toNatClampNeg); have f10 := rd_tri hJ ((a1 + 3).toNatClampNeg) (by have d0 := i_add (a1) ((3 : Int32)); have d1 := p_a1; have d2 := i_rg a1; have d3 : (3 : Int32).toInt = 3 := rfl; have d4 := x_1; have d5 := j_rd hJ 1 11 (-1) 60 rfl; have d6 := cl_nat (a1 + 3); omega); omega)) ?_
    refine oq_if (fun c2 => ?_) (fun c2 => ?_)
    · exact ⟨js6, (by have f0 : (1 : Int32).toInt = 1 := rfl; omega), fun w9 => absurd w9 (by decide), fun _ => trivial⟩
    · exact ⟨js6, (by have f0 : (0 : Int32).toInt = 0 := rfl; omega), fun _ => trivial, fun w9 => absurd rfl w9⟩
  · refine oq_if (fun c3 => ?_) (fun c3 => ?_)
    · refine oq_b (h_X12_isSome _ _ hJ.1 (by have f0 := i_eq ex4; have f1 := i_rg x4; have f2 := rd_one hJ ((a1 + 1).toNatClampNeg) (by have d0 := i_add (a1) ((1 : Int32)); have d1 := p_a1; have d2 := i_rg a1; have d3 : (1 : Int32).toInt = 1 := rfl; have d4 := x_1; have d5 := j_rd hJ 1 11 (-1) 60 rfl; have d6 := cl_nat (a1 + 1); omega); have f3 := hk; have f4 := i_rg (s.1 1 a1.toNatClampNeg); have f5 := rd_tri hJ ((a1 + 3).toNatClampNeg) (by have d0 := i_add (a1) ((3 : Int32)); have d1 := p_a1; have d2 := i_rg a1; have d3 : (3 : Int32).toInt = 3 := rfl; have d4 := x_1; have d5 := j_rd hJ 1 11 (-1) 60 rfl; have d6 := cl_nat (a1 + 3); omega); omega) (by have f0 : (0 : Int32).toInt = 0 := rfl; omega)) (fun r8 s9 hs9 => ?_)
      have js9 : JM 0 s s9 := j_call hJ hs9.1 rfl
      refine oq_if (fun c4 => ?_) (fun c4 => ?_)
      · exact ⟨js9, (by have f0 : (0 : Int32).toInt = 0 := rfl; omega), fun _ => trivial, fun w9 => absurd rfl w9⟩
      · refine oq_b (h_X12_isSome _ _ js9.1 (by have f0 := i_eq ex4; have f1 := i_rg x4; have f2 := rd_one hJ ((a1 + 1).toNatClampNeg) (by have d0 := i_add (a1) ((1 : Int32)); have d1 := p_a1; have d2 := i_rg a1; have d3 : (1 : Int32).toInt = 1 := rfl; have d4 := x_1; have d5 := j_rd hJ 1 11 (-1) 60 rfl; have d6 := cl_nat (a1 + 1); omega); have f3 := hk; have f4 := i_rg (s.1 1 a1.toNatClampNeg); have f5 := rd_tri hJ ((a1 + 3).toNatClampNeg) (by have d0 := i_add (a1) ((3 : Int32)); have d1 := p_a1; have d2 := i_rg a1; have d3 : (3 : Int32).toInt = 3 := rfl; have d4 := x_1; have d5 := j_rd hJ 1 11 (-1) 60 rfl; have d6 := cl_nat (a1 + 3); omega); omega) (by have f0 : (1 : Int32).toInt = 1 := rfl; omega)) (fun r10 s11 hs11 => ?_)
        have js11 : JM 0 s s11 := j_call js9 hs11.1 rfl
        refine oq_if (fun c5 => ?_) (fun c5 => ?_)
        · exact ⟨js11, (by have f0 : (0 : Int32).toInt = 0 := rfl; omega), fun _ => trivial, fun w9 => absurd rfl w9⟩
        · exact ⟨js11, (by have f0 : (1 : Int32).toInt = 1 := rfl; omega), fun w9 => absurd w9 (by decide), fun _ => trivial⟩
    · refine oq_b (h_X12_grainsOn _ hJ.1 (by have f0 := i_eq ex4; have f1 := i_rg x4; have f2 := rd_one hJ ((a1 + 1).toNatClampNeg) (by have d0 := i_add (a1) ((1 : Int32)); have d1 := p_a1; have d2 := i_rg a1; have d3 : (1 : Int32).toInt = 1 := rfl; have d4 := x_1; have d5 := j_rd hJ 1 11 (-1) 60 rfl; have d6 := cl_nat (a1 + 1); omega); have f3 := hk; have f4 := i_rg (s.1 1 a1.toNatClampNeg); have f5 := rd_tri hJ ((a1 + 3).toNatClampNeg) (by have d0 := i_add (a1) ((3 : Int32)); have d1 := p_a1; have d2 := i_rg a1; have d3 : (3 : Int32).toInt = 3 := rfl; have d4 := x_1; have d5 := j_rd hJ 1 11 (-1) 60 rfl; have d6 := cl_nat (a1 + 3); omega); omega)) (fun r12 s13 hs13 => ?_)
      have js13 : JM 0 s s13 := j_call hJ hs13.1 rfl
      refine oq_c (inr_of (by have f0 := i_add (a1) ((5 : Int32)); have f1 := p_a1; have f2 := i_rg a1; have f3 : (5 : Int32).toInt = 5 := rfl; have f4 := x_1; have f5 := j_rd hJ 1 11 (-1) 60 rfl; omega)) ?_
      refine oq_if (fun c6 => ?_) (fun c6 => ?_)
      · refine oq_c (inr_of (by have f0 := i_add (a1) ((2 : Int32)); have f1 := p_a1; have f2 := i_rg a1; have f3 : (2 : Int32).toInt = 2 := rfl; have f4 := x_1; have f5 := j_rd hJ 1 11 (-1) 60 rfl; omega)) ?_
        refine oq_if (fun c7 => ?_) (fun c7 => ?_)
        · exact ⟨js13, (by have f0 : (0 : Int32).toInt = 0 := rfl; omega), fun _ => trivial, fun w9 => absurd rfl w9⟩
        · exact ⟨js13, (by have f0 : (1 : Int32).toInt = 1 := rfl; omega), fun w9 => absurd w9 (by decide), fun _ => trivial⟩
      · refine oq_if (fun c8 => ?_) (fun c8 => ?_)
        · refine oq_c (inr_of (by have f0 := i_add (a1) ((2 : Int32)); have f1 := p_a1; have f2 := i_rg a1; have f3 : (2 : Int32).toInt = 2 := rfl; have f4 := x_1; have f5 := j_rd hJ 1 11 (-1) 60 rfl; omega)) ?_
          refine oq_if (fun c9 => ?_) (fun c9 => ?_)
          · exact ⟨js13, (by have f0 : (0 : Int32).toInt = 0 := rfl; omega), fun _ => trivial, fun w9 => absurd rfl w9⟩
          · exact ⟨js13, (by have f0 : (1 : Int32).toInt = 1 := rfl; omega), fun w9 => absurd w9 (by decide), fun _ => trivial⟩
        · refine oq_c (inr_of (by have f0 := i_add (a1) ((2 : Int32)); have f1 := p_a1; have f2 := i_rg a1; have f3 : (2 : Int32).toInt = 2 := rfl; have f4 := x_1; have f5 := j_rd hJ 1 11 (-1) 60 rfl; omega)) ?_
          refine oq_if (fun c10 => ?_) (fun c10 => ?_)
          · exact ⟨js13, (by have f0 : (1 : Int32).toInt = 1 := rfl; omega), fun w9 => absurd w9 (by decide), fun _ => trivial⟩
          · exact ⟨js13, (by have f0 : (0 : Int32).toInt = 0 := rfl; omega), fun _ => trivial, fun w9 => absurd rfl w9⟩
theorem h_X12_lives_b140 {s0 : Sg} (k_32 : Int32 → Sg → Option (Unit × Sg)) (m_32 : Nat) (hk_32 : ∀ (v2 : Int32) (s : Sg), JM 6474808964275029150722 s0 s → RowM s0 → 0 ≤ v2.toInt ∧ v2.toInt ≤ 60 → 301 - (s.1 0 30).toInt < (m_32 : Int) → OQ (k_32 v2 s) (fun _ s9 => JM 6474808964275029150722 s0 s9 ∧ True)) (v2 : Int32) (v3 : Int32) (s : Sg) (hJ : JM 6474808964275029150722 s0 s) (hB : RowM s0) (p_v2 : 0 ≤ v2.toInt ∧ v2.toInt ≤ 59) (p_v3 : 110 ≤ v3.toInt ∧ v3.toInt ≤ 464) (x_1 : (v3.toInt = 110 + 6 * v2.toInt ∧ 0 ≤ v2.toInt ∧ v2.toInt < (s.1 1 11).toInt)) (hm_32 : 301 - (s.1 0 30).toInt < (m_32 : Int)) : OQ (f_X12_lives_b140 k_32 v2 v3 s) (fun _ s9 => JM 6474808964275029150722 s0 s9 ∧ True) := by
  unfold f_X12_lives_b140
  refine oq_c (inr_of (by have f0 := p_v3; have f1 := i_rg v3; have f2 := x_1; have f3 := p_v2; have f4 := i_rg v2; have f5 := j_rd hJ 1 11 (-1) 60 rfl; omega)) ?_
  refine oq_if (fun c1 => ?_) (fun c1 => ?_)
  · refine oq_b (h_X12_behindEnds _ hJ.1 (by have f0 := i_add (v2) ((1 : Int32)); have f1 := p_v2; have f2 := i_rg v2; have f3 : (1 : Int32).toInt = 1 := rfl; have f4 := x_1; have f5 := p_v3; have f6 := i_rg v3; have f7 := j_rd hJ 1 11 (-1) 60 rfl; omega)) (fun r11 s12 hs12 => ?_)
    have js12 : JM 6474808964275029150722 s0 s12 := j_call hJ hs12.1 rfl
    exact hk_32 _ _ js12 hB (by have f0 := hs12.2.1; have f1 := i_rg r11; omega) (by have g0 := hs12.2.1; have g1 := i_rg r11; have g2 := j_rd js12 0 30 0 300 rfl; have g3 : (s12.1 0 30).toInt = (s.1 0 30).toInt := j_fr hs12.1 0 30 50 rfl rfl; have g4 := j_rd hJ 0 30 0 300 rfl; have g5 := hm_32; omega)
  · refine oq_b (h_X12_holds _ hJ.1 (row_j hB hJ rfl rfl) (by have f0 := p_v3; have f1 := i_rg v3; have f2 := x_1; have f3 := p_v2; have f4 := i_rg v2; have f5 := j_rd hJ 1 11 (-1) 60 rfl; omega) (by have g0 := p_v3; have g1 := i_rg v3; have g2 := j_rd hJ 1 11 (-1) 60 rfl; have g3 := x_1; have g4 := p_v2; have g5 := i_rg v2; omega)) (fun r13 s14 hs14 => ?_)
    have js14 : JM 6474808964275029150722 s0 s14 := j_call hJ hs14.1 rfl
    refine oq_if (fun c2 => ?_) (fun c2 => ?_)
    · refine oq_c (inr_of (by have f0 := i_add (v3) ((4 : Int32)); have f1 := p_v3; have f2 := i_rg v3; have f3 : (4 : Int32).toInt = 4 := rfl; have f4 := x_1; have f5 := p_v2; have f6 := i_rg v2; have f7 := j_rd hJ 1 11 (-1) 60 rfl; omega)) ?_
      refine oq_b (h_X12_behindEnds _ js14.1 (by have f0 := i_add (s14.1 1 ((v3 + 4).toNatClampNeg)) ((1 : Int32)); have f1 := rd_par js14 ((v3 + 4).toNatClampNeg) (by have d0 := i_add (v3) ((4 : Int32)); have d1 := p_v3; have d2 := i_rg v3; have d3 : (4 : Int32).toInt = 4 := rfl; have d4 := x_1; have d5 := p_v2; have d6 := i_rg v2; have d7 := j_rd hJ 1 11 (-1) 60 rfl; have d8 := cl_nat (v3 + 4); omega); have f2 : (1 : Int32).toInt = 1 := rfl; omega)) (fun r16 s17 hs17 => ?_)
      have js17 : JM 6474808964275029150722 s0 s17 := j_call js14 hs17.1 rfl
      exact hk_32 _ _ js17 hB (by have f0 := hs17.2.1; have f1 := i_rg r16; omega) (by have g0 := hs17.2.1; have g1 := i_rg r16; have g2 := j_rd js17 0 30 0 300 rfl; have g3 : (s17.1 0 30).toInt = (s14.1 0 30).toInt := j_fr hs17.1 0 30 50 rfl rfl; have g4 := j_rd js14 0 30 0 300 rfl; have g5 : (s14.1 0 30).toInt = (s.1 0 30).toInt := j_fr hs14.1 0 30 50 rfl rfl; have g6 := j_rd hJ 0 30 0 300 rfl; have g7 := hm_32; omega)
    · refine oq_b (h_X12_behindEnds _ js14.1 (by have f0 := i_add (v2) ((1 : Int32)); have f1 := p_v2; have f2 := i_rg v2; have f3 : (1 : Int32).toInt = 1 := rfl; have f4 := x_1; have f5 := p_v3; have f6 := i_rg v3; have f7 := j_rd hJ 1 11 (-1) 60 rfl; omega)) (fun r18 s19 hs19 => ?_)
      have js19 : JM 6474808964275029150722 s0 s19 := j_call js14 hs19.1 rfl
      exact hk_32 _ _ js19 hB (by have f0 := hs19.2.1; have f1 := i_rg r18; omega) (by have g0 := hs19.2.1; have g1 := i_rg r18; have g2 := j_rd js19 0 30 0 300 rfl; have g3 : (s19.1 0 30).toInt = (s14.1 0 30).toInt := j_fr hs19.1 0 30 50 rfl rfl; have g4 := j_rd js14 0 30 0 300 rfl; have g5 : (s14.1 0 30).toInt = (s.1 0 30).toInt := j_fr hs14.1 0 30 50 rfl rfl; have g6 := j_rd hJ 0 30 0 300 rfl; have g7 := hm_32; omega)
theorem h_X12_lives_b111 {s0 : Sg} (k_32 : Int32 → Sg → Option (Unit × Sg)) (m_32 : Nat) (hk_32 : ∀ (v2 : Int32) (s : Sg), JM 6474808964275029150722 s0 s → RowM s0 → 0 ≤ v2.toInt ∧ v2.toInt ≤ 60 → 301 - (s.1 0 30).toInt < (m_32 : Int) → OQ (k_32 v2 s) (fun _ s9 => JM 6474808964275029150722 s0 s9 ∧ True)) (v2 : Int32) (v3 : Int32) (t0 : Int32) (t1 : Int32) (t2 : Int32) (s : Sg) (hJ : JM 6474808964275029150722 s0 s) (hB : RowM s0) (p_v2 : 0 ≤ v2.toInt ∧ v2.toInt ≤ 59) (p_v3 : 110 ≤ v3.toInt ∧ v3.toInt ≤ 464) (p_t0 : 0 ≤ t0.toInt ∧ t0.toInt ≤ 1) (p_t2 : 0 ≤ t2.toInt ∧ t2.toInt ≤ 0) (x_1 : (v3.toInt = 110 + 6 * v2.toInt ∧ 0 ≤ v2.toInt ∧ v2.toInt < (s.1 1 11).toInt)) (hm_32 : 301 - (s.1 0 30).toInt < (m_32 : Int)) : OQ (f_X12_lives_b111 k_32 v2 v3 t0 t1 t2 s) (fun _ s9 => JM 6474808964275029150722 s0 s9 ∧ True) := by
  unfold f_X12_lives_b111
  refine oq_c (inr_of (by have f0 := p_t2; have f1 := i_rg t2; omega)) ?_
  refine oq_n (fun s5 es5 => ?_)
  have js5 : JM 6474808964275029150722 s0 s5 := by rw [es5]; exact (j_wf hJ rfl 11 rfl rfl)
  refine oq_c (inr_of (by have f0 := p_v3; have f1 := i_rg v3; have f2 := x_1; have f3 := p_v2; have f4 := i_rg v2; have f5 := j_rd hJ 1 11 (-1) 60 rfl; omega)) ?_
  refine oq_if (fun c1 => ?_) (fun c1 => ?_)
  · refine oq_c (inr_of (by have f0 := i_add (v3) ((1 : Int32)); have f1 := p_v3; have f2 := i_rg v3; have f3 : (1 : Int32).toInt = 1 := rfl; have f4 := x_1; have f5 := p_v2; have f6 := i_rg v2; have f7 := j_rd hJ 1 11 (-1) 60 rfl; omega)) ?_
    refine oq_c (inr_of (by have f0 := p_v2; have f1 := i_rg v2; have f2 := x_1; have f3 := p_v3; have f4 := i_rg v3; have f5 := j_rd hJ 1 11 (-1) 60 rfl; omega)) ?_
    refine oq_n (fun s9 es9 => ?_)
    have js9 : JM 6474808964275029150722 s0 s9 := by rw [es9]; exact (j_wr (-2) 98 js5 rfl 10 rfl rfl (by have f0 := i_sub (s5.1 1 ((v3 + 1).toNatClampNeg)) ((1 : Int32)); have f1 := rd_one js5 ((v3 + 1).toNatClampNeg) (by have d0 := i_add (v3) ((1 : Int32)); have d1 := p_v3; have d2 := i_rg v3; have d3 : (1 : Int32).toInt = 1 := rfl; have d4 := x_1; have d5 := p_v2; have d6 := i_rg v2; have d7 := j_rd hJ 1 11 (-1) 60 rfl; have d8 := cl_nat (v3 + 1); omega); have f2 : (1 : Int32).toInt = 1 := rfl; omega))
    exact h_X12_lives_b140 _ m_32 hk_32 _ _ _ js9 hB (by have f0 := p_v2; have f1 := i_rg v2; have f2 := x_1; have f3 := p_v3; have f4 := i_rg v3; have f5 := j_rd hJ 1 11 (-1) 60 rfl; omega) (by have f0 := p_v3; have f1 := i_rg v3; have f2 := x_1; have f3 := p_v2; have f4 := i_rg v2; have f5 := j_rd hJ 1 11 (-1) 60 rfl; omega) (by have g0 := p_v2; have g1 := i_rg v2; have g2 := p_v3; have g3 := i_rg v3; have g4 := j_rd js9 1 11 (-1) 60 rfl; have g5 : (s9.1 1 11).toInt = (s5.1 1 11).toInt := (by rw [es9]; exact u_nc rfl); have g6 := j_rd js5 1 11 (-1) 60 rfl; have g7 : (s5.1 1 11).toInt = (s.1 1 11).toInt := (by rw [es5]; exact u_nc rfl); have g8 := j_rd hJ 1 11 (-1) 60 rfl; have g9 := x_1; omega) (by have g0 := p_v2; have g1 := i_rg v2; have g2 := p_v3; have g3 := i_rg v3; have g4 := j_rd js9 0 30 0 300 rfl; have g5 : (s9.1 0 30).toInt = (s5.1 0 30).toInt := (by rw [es9]; exact u_nc rfl); have g6 := j_rd js5 0 30 0 300 rfl; have g7 : (s5.1 0 30).toInt = (s.1 0 30).toInt := (by rw [es5]; exact u_nc rfl); have g8 := j_rd hJ 0 30 0 300 rfl; have g9 := x_1; have g10 := j_rd hJ 1 11 (-1) 60 rfl; have g11 := hm_32; omega)
  · exact h_X12_lives_b140 _ m_32 hk_32 _ _ _ js5 hB (by have f0 := p_v2; have f1 := i_rg v2; have f2 := x_1; have f3 := p_v3; have f4 := i_rg v3; have f5 := j_rd hJ 1 11 (-1) 60 rfl; omega) (by have f0 := p_v3; have f1 := i_rg v3; have f2 := x_1; have f3 := p_v2; have f4 := i_rg v2; have f5 := j_rd hJ 1 11 (-1) 60 rfl; omega) (by have g0 := p_v2; have g1 := i_rg v2; have g2 := p_v3; have g3 := i_rg v3; have g4 := j_rd js5 1 11 (-1) 60 rfl; have g5 : (s5.1 1 11).toInt = (s.1 1 11).toInt := (by rw [es5]; exact u_nc rfl); have g6 := j_rd hJ 1 11 (-1) 60 rfl; have g7 := x_1; omega) (by have g0 := p_v2; have g1 := i_rg v2; have g2 := p_v3; have g3 := i_rg v3; have g4 := j_rd js5 0 30 0 300 rfl; have g5 : (s5.1 0 30).toInt = (s.1 0 30).toInt := (by rw [es5]; exact u_nc rfl); have g6 := j_rd hJ 0 30 0 300 rfl; have g7 := x_1; have g8 := j_rd hJ 1 11 (-1) 60 rfl; have g9 := hm_32; omega)
theorem h_X12_lives_b32 {s0 : Sg} (n : Nat) : ∀ (v2 : Int32) (s : Sg), JM 6474808964275029150722 s0 s → RowM s0 → 0 ≤ v2.toInt ∧ v2.toInt ≤ 60 → 301 - (s.1 0 30).toInt < (n : Int) → OQ (f_X12_lives_b32 n v2 s) (fun _ s9 => JM 6474808964275029150722 s0 s9 ∧ True) := by
  induction n with
  | zero => intro v2 s hJ hB p_v2 hn; exact False.elim (by have g0 := hn; have g1 := p_v2; have g2 := i_rg v2; have g3 := j_rd hJ 0 30 0 300 rfl; omega)
  | succ n ih =>
    intro v2 s hJ hB p_v2 hn
    unfold f_X12_lives_b32
    refine oq_if (fun c1 => ?_) (fun c1 => ?_)
    · exact ⟨hJ, trivial⟩
    · refine oq_if (fun c2 => ?_) (fun c2 => ?_)
      · exact ⟨(j_wf hJ rfl 11 rfl rfl), trivial⟩
      · refine oq_c (inr_of (by have f0 := i_mul ((6 : Int32)) (v2); have f1 := i_add ((110 : Int32)) (6 * v2); have f2 : (110 : Int32).toInt = 110 := rfl; have f3 : (6 : Int32).toInt = 6 := rfl; have f4 := p_v2; have f5 := i_rg v2; have f6 := i_nle c1; have f7 := j_rd hJ 1 11 (-1) 60 rfl; omega)) ?_
        refine oq_if (fun c3 => ?_) (fun c3 => ?_)
        · exact ⟨(j_wr 0 300 hJ rfl 50 rfl rfl (by have f0 := i_add (s.1 0 30) ((1 : Int32)); have f1 := j_rd hJ 0 30 0 300 rfl; have f2 : (1 : Int32).toInt = 1 := rfl; have f3 := i_ne c2; have f4 : (300 : Int32).toInt = 300 := rfl; omega)), trivial⟩
        · refine oq_b (h_X12_does _ ((j_wr 0 300 hJ rfl 50 rfl rfl (by have f0 := i_add (s.1 0 30) ((1 : Int32)); have f1 := j_rd hJ 0 30 0 300 rfl; have f2 : (1 : Int32).toInt = 1 := rfl; have f3 := i_ne c2; have f4 : (300 : Int32).toInt = 300 := rfl; omega)) : JM 6474808964275029150722 s0 (pI s 0 30 ((s.1 0 30) + 1))).1 (row_j hB ((j_wr 0 300 hJ rfl 50 rfl rfl (by have f0 := i_add (s.1 0 30) ((1 : Int32)); have f1 := j_rd hJ 0 30 0 300 rfl; have f2 : (1 : Int32).toInt = 1 := rfl; have f3 := i_ne c2; have f4 : (300 : Int32).toInt = 300 := rfl; omega)) : JM 6474808964275029150722 s0 (pI s 0 30 ((s.1 0 30) + 1))) rfl rfl) (by have f0 := i_mul ((6 : Int32)) (v2); have f1 := i_add ((110 : Int32)) (6 * v2); have f2 : (110 : Int32).toInt = 110 := rfl; have f3 : (6 : Int32).toInt = 6 := rfl; have f4 := p_v2; have f5 := i_rg v2; have f6 := i_nle c1; have f7 := j_rd hJ 1 11 (-1) 60 rfl; omega) (by have g0 := i_mul ((6 : Int32)) (v2); have g1 := i_add ((110 : Int32)) (6 * v2); have g2 : (110 : Int32).toInt = 110 := rfl; have g3 : (6 : Int32).toInt = 6 := rfl; have g4 := p_v2; have g5 := i_rg v2; have g6 := j_rd ((j_wr 0 300 hJ rfl 50 rfl rfl (by have f0 := i_add (s.1 0 30) ((1 : Int32)); have f1 := j_rd hJ 0 30 0 300 rfl; have f2 : (1 : Int32).toInt = 1 := rfl; have f3 := i_ne c2; have f4 : (300 : Int32).toInt = 300 := rfl; omega)) : JM 6474808964275029150722 s0 (pI s 0 30 ((s.1 0 30) + 1))) 1 11 (-1) 60 rfl; have g7 : ((pI s 0 30 ((s.1 0 30) + 1)).1 1 11).toInt = (s.1 1 11).toInt := u_nc rfl; have g8 := j_rd hJ 1 11 (-1) 60 rfl; have g9 := i_nle c1; omega)) (fun r2 s3 hs3 => ?_)
          have js3 : JM 6474808964275029150722 s0 s3 := j_call ((j_wr 0 300 hJ rfl 50 rfl rfl (by have f0 := i_add (s.1 0 30) ((1 : Int32)); have f1 := j_rd hJ 0 30 0 300 rfl; have f2 : (1 : Int32).toInt = 1 := rfl; have f3 := i_ne c2; have f4 : (300 : Int32).toInt = 300 := rfl; omega)) : JM 6474808964275029150722 s0 (pI s 0 30 ((s.1 0 30) + 1))) hs3.1 rfl
          refine oq_if (fun c4 => ?_) (fun c4 => ?_)
          · exact h_X12_lives_b111 _ n ih _ _ _ _ _ _ js3 hB (by have f0 := p_v2; have f1 := i_rg v2; have f2 := i_nle c1; have f3 := j_rd hJ 1 11 (-1) 60 rfl; omega) (by have f0 := i_mul ((6 : Int32)) (v2); have f1 := i_add ((110 : Int32)) (6 * v2); have f2 : (110 : Int32).toInt = 110 := rfl; have f3 : (6 : Int32).toInt = 6 := rfl; have f4 := p_v2; have f5 := i_rg v2; have f6 := i_nle c1; have f7 := j_rd hJ 1 11 (-1) 60 rfl; omega) (by have f0 : (1 : Int32).toInt = 1 := rfl; omega) (by have f0 : (0 : Int32).toInt = 0 := rfl; omega) (by have g0 := i_mul ((6 : Int32)) (v2); have g1 := i_add ((110 : Int32)) (6 * v2); have g2 := p_v2; have g3 := i_rg v2; have g4 : (110 : Int32).toInt = 110 := rfl; have g5 : (6 : Int32).toInt = 6 := rfl; have g6 := j_rd js3 1 11 (-1) 60 rfl; have g7 : (s3.1 1 11).toInt = ((pI s 0 30 ((s.1 0 30) + 1)).1 1 11).toInt := j_fr hs3.1 1 11 71 rfl rfl; have g8 := j_rd ((j_wr 0 300 hJ rfl 50 rfl rfl (by have f0 := i_add (s.1 0 30) ((1 : Int32)); have f1 := j_rd hJ 0 30 0 300 rfl; have f2 : (1 : Int32).toInt = 1 := rfl; have f3 := i_ne c2; have f4 : (300 : Int32).toInt = 300 := rfl; omega)) : JM 6474808964275029150722 s0 (pI s 0 30 ((s.1 0 30) + 1))) 1 11 (-1) 60 rfl; have g9 : ((pI s 0 30 ((s.1 0 30) + 1)).1 1 11).toInt = (s.1 1 11).toInt := u_nc rfl; have g10 := j_rd hJ 1 11 (-1) 60 rfl; have g11 := i_nle c1; omega) (by have g0 := i_mul ((6 : Int32)) (v2); have g1 := i_add ((110 : Int32)) (6 * v2); have g2 := p_v2; have g3 := i_rg v2; have g4 : (110 : Int32).toInt = 110 := rfl; have g5 : (6 : Int32).toInt = 6 := rfl; have g6 : (1 : Int32).toInt = 1 := rfl; have g7 : ((pI s 0 30 ((s.1 0 30) + 1)).1 11 0).toInt = (s.1 11 0).toInt := u_nc rfl; have g8 := i_rg ((pI s 0 30 ((s.1 0 30) + 1)).1 11 0); have g9 : (0 : Int32).toInt = 0 := rfl; have g10 := j_rd js3 0 30 0 300 rfl; have g11 : (s3.1 0 30).toInt = ((pI s 0 30 ((s.1 0 30) + 1)).1 0 30).toInt := j_fr hs3.1 0 30 50 rfl rfl; have g12 := i_rg (s.1 11 0); have g13 := j_rd ((j_wr 0 300 hJ rfl 50 rfl rfl (by have f0 := i_add (s.1 0 30) ((1 : Int32)); have f1 := j_rd hJ 0 30 0 300 rfl; have f2 : (1 : Int32).toInt = 1 := rfl; have f3 := i_ne c2; have f4 : (300 : Int32).toInt = 300 := rfl; omega)) : JM 6474808964275029150722 s0 (pI s 0 30 ((s.1 0 30) + 1))) 0 30 0 300 rfl; have g14 : ((pI s 0 30 ((s.1 0 30) + 1)).1 0 30).toInt = ((s.1 0 30) + 1).toInt := u_eq; have g15 := i_add (s.1 0 30) ((1 : Int32)); have g16 := j_rd hJ 0 30 0 300 rfl; have g17 := i_nle c1; have g18 := i_ne c2; have g19 := j_rd hJ 1 11 (-1) 60 rfl; have g20 : (300 : Int32).toInt = 300 := rfl; have g21 := hn; omega)
          · exact h_X12_lives_b111 _ n ih _ _ _ _ _ _ js3 hB (by have f0 := p_v2; have f1 := i_rg v2; have f2 := i_nle c1; have f3 := j_rd hJ 1 11 (-1) 60 rfl; omega) (by have f0 := i_mul ((6 : Int32)) (v2); have f1 := i_add ((110 : Int32)) (6 * v2); have f2 : (110 : Int32).toInt = 110 := rfl; have f3 : (6 : Int32).toInt = 6 := rfl; have f4 := p_v2; have f5 := i_rg v2; have f6 := i_nle c1; have f7 := j_rd hJ 1 11 (-1) 60 rfl; omega) (by have f0 : (0 : Int32).toInt = 0 := rfl; omega) (by have f0 : (0 : Int32).toInt = 0 := rfl; omega) (by have g0 := i_mul ((6 : Int32)) (v2); have g1 := i_add ((110 : Int32)) (6 * v2); have g2 := p_v2; have g3 := i_rg v2; have g4 : (110 : Int32).toInt = 110 := rfl; have g5 : (6 : Int32).toInt = 6 := rfl; have g6 := j_rd js3 1 11 (-1) 60 rfl; have g7 : (s3.1 1 11).toInt = ((pI s 0 30 ((s.1 0 30) + 1)).1 1 11).toInt := j_fr hs3.1 1 11 71 rfl rfl; have g8 := j_rd ((j_wr 0 300 hJ rfl 50 rfl rfl (by have f0 := i_add (s.1 0 30) ((1 : Int32)); have f1 := j_rd hJ 0 30 0 300 rfl; have f2 : (1 : Int32).toInt = 1 := rfl; have f3 := i_ne c2; have f4 : (300 : Int32).toInt = 300 := rfl; omega)) : JM 6474808964275029150722 s0 (pI s 0 30 ((s.1 0 30) + 1))) 1 11 (-1) 60 rfl; have g9 : ((pI s 0 30 ((s.1 0 30) + 1)).1 1 11).toInt = (s.1 1 11).toInt := u_nc rfl; have g10 := j_rd hJ 1 11 (-1) 60 rfl; have g11 := i_nle c1; omega) (by have g0 := i_mul ((6 : Int32)) (v2); have g1 := i_add ((110 : Int32)) (6 * v2); have g2 := p_v2; have g3 := i_rg v2; have g4 : (110 : Int32).toInt = 110 := rfl; have g5 : (6 : Int32).toInt = 6 := rfl; have g6 : (0 : Int32).toInt = 0 := rfl; have g7 : ((pI s 0 30 ((s.1 0 30) + 1)).1 11 0).toInt = (s.1 11 0).toInt := u_nc rfl; have g8 := i_rg ((pI s 0 30 ((s.1 0 30) + 1)).1 11 0); have g9 := j_rd js3 0 30 0 300 rfl; have g10 : (s3.1 0 30).toInt = ((pI s 0 30 ((s.1 0 30) + 1)).1 0 30).toInt := j_fr hs3.1 0 30 50 rfl rfl; have g11 := i_rg (s.1 11 0); have g12 := j_rd ((j_wr 0 300 hJ rfl 50 rfl rfl (by have f0 := i_add (s.1 0 30) ((1 : Int32)); have f1 := j_rd hJ 0 30 0 300 rfl; have f2 : (1 : Int32).toInt = 1 := rfl; have f3 := i_ne c2; have f4 : (300 : Int32).toInt = 300 := rfl; omega)) : JM 6474808964275029150722 s0 (pI s 0 30 ((s.1 0 30) + 1))) 0 30 0 300 rfl; have g13 : ((pI s 0 30 ((s.1 0 30) + 1)).1 0 30).toInt = ((s.1 0 30) + 1).toInt := u_eq; have g14 := i_add (s.1 0 30) ((1 : Int32)); have g15 := j_rd hJ 0 30 0 300 rfl; have g16 : (1 : Int32).toInt = 1 := rfl; have g17 := i_nle c1; have g18 := i_ne c2; have g19 := j_rd hJ 1 11 (-1) 60 rfl; have g20 : (300 : Int32).toInt = 300 := rfl; have g21 := hn; omega)
theorem h_X12_lives_b12 {s0 : Sg} (n : Nat) : ∀ (v2 : Int32) (s : Sg), JM 6474808964275029150722 s0 s → RowM s0 → 0 ≤ v2.toInt ∧ v2.toInt ≤ 5 → 5 - v2.toInt < (n : Int) → OQ (f_X12_lives_b12 n v2 s) (fun _ s9 => JM 6474808964275029150722 s0 s9 ∧ True) := by
  induction n with
  | zero => intro v2 s hJ hB p_v2 hn; exact False.elim (by have g0 := hn; have g1 := p_v2; have g2 := i_rg v2; omega)
  | succ n ih =>
    intro v2 s hJ hB p_v2 hn
    unfold f_X12_lives_b12
    refine oq_if (fun c1 => ?_) (fun c1 => ?_)
    · exact h_X12_lives_b32 BIG _ _ hJ hB (by have f0 : (0 : Int32).toInt = 0 := rfl; omega) (by have g0 : (0 : Int32).toInt = 0 := rfl; have g1 := j_rd hJ 0 30 0 300 rfl; have g2 : BIG = 4294967296 := rfl; omega)
    · refine oq_c (inr_of (by have f0 := p_v2; have f1 := i_rg v2; have f2 := i_nle c1; have f3 : (5 : Int32).toInt = 5 := rfl; omega)) ?_
      exact ih _ _ (j_wf hJ rfl 11 rfl rfl) hB (by have f0 := i_add (v2) ((1 : Int32)); have f1 := p_v2; have f2 := i_rg v2; have f3 : (1 : Int32).toInt = 1 := rfl; have f4 := i_nle c1; have f5 : (5 : Int32).toInt = 5 := rfl; omega) (by have g0 := i_add (v2) ((1 : Int32)); have g1 := p_v2; have g2 := i_rg v2; have g3 : (1 : Int32).toInt = 1 := rfl; have g4 := i_nle c1; have g5 : (5 : Int32).toInt = 5 := rfl; have g6 := hn; omega)
theorem h_X12_lives (a1 : Int32) {s : Sg} (hR : Rg rM s) (hB : RowM s) : OQ (f_X12_lives a1 s) (fun _ s9 => JM 6474808964275029150722 s s9 ∧ True) := by
  have hJ : JM 6474808964275029150722 s s := j_refl hR
  unfold f_X12_lives
  exact h_X12_lives_b12 BIG _ _ (j_wr 0 300 (j_wf hJ rfl 49 rfl rfl) rfl 50 rfl rfl (by have f0 : (0 : Int32).toInt = 0 := rfl; omega)) hB (by have f0 : (0 : Int32).toInt = 0 := rfl; omega) (by have g0 : (0 : Int32).toInt = 0 := rfl; have g1 : BIG = 4294967296 := rfl; omega)
theorem h_X12_live_b43 {s0 : Sg} (n : Nat) : ∀ (v2 : Int32) (s : Sg), JM 6474826978673542831106 s0 s → RowM s0 → 0 ≤ v2.toInt ∧ v2.toInt ≤ 5 → 5 - v2.toInt < (n : Int) → OQ (f_X12_live_b43 n v2 s) (fun r9 s9 => JM 6474826978673542831106 s0 s9 ∧ True ∧ (r9 = 0 → True) ∧ (¬ r9 = 0 → True)) := by
  induction n with
  | zero => intro v2 s hJ hB p_v2 hn; exact False.elim (by have g0 := hn; have g1 := p_v2; have g2 := i_rg v2; omega)
  | succ n ih =>
    intro v2 s hJ hB p_v2 hn
    unfold f_X12_live_b43
    refine oq_if (fun c1 => ?_) (fun c1 => ?_)
    · refine oq_b (h_X12_gives _ ((j_wr 0 1 hJ rfl 54 rfl rfl (by have f0 : (1 : Int32).toInt = 1 := rfl; omega)) : JM 6474826978673542831106 s0 (pI s 0 34 1)).1) (fun r9 s10 hs10 => ?_)
      have js10 : JM 6474826978673542831106 s0 s10 := j_call ((j_wr 0 1 hJ rfl 54 rfl rfl (by have f0 : (1 : Int32).toInt = 1 := rfl; omega)) : JM 6474826978673542831106 s0 (pI s 0 34 1)) hs10.1 rfl
      exact ⟨js10, trivial, fun _ => trivial, fun _ => trivial⟩
    · refine oq_c (inr_of (by have f0 := p_v2; have f1 := i_rg v2; have f2 := i_nle c1; have f3 : (5 : Int32).toInt = 5 := rfl; omega)) ?_
      refine oq_n (fun s12 es12 => ?_)
      have js12 : JM 6474826978673542831106 s0 s12 := by rw [es12]; exact (j_wf hJ rfl 12 rfl rfl)
      exact ih _ _ js12 hB (by have f0 := i_add (v2) ((1 : Int32)); have f1 := p_v2; have f2 := i_rg v2; have f3 : (1 : Int32).toInt = 1 := rfl; have f4 := i_nle c1; have f5 : (5 : Int32).toInt = 5 := rfl; omega) (by have g0 := i_add (v2) ((1 : Int32)); have g1 := p_v2; have g2 := i_rg v2; have g3 : (1 : Int32).toInt = 1 := rfl; have g4 := i_nle c1; have g5 : (5 : Int32).toInt = 5 := rfl; have g6 := hn; omega)
theorem h_X12_live (a1 : Int32) {s : Sg} (hR : Rg rM s) (hB : RowM s) : OQ (f_X12_live a1 s) (fun r9 s9 => JM 6474826978673542831106 s s9 ∧ True ∧ (r9 = 0 → True) ∧ (¬ r9 = 0 → True)) := by
  have hJ : JM 6474826978673542831106 s s := j_refl hR
  unfold f_X12_live
  refine oq_b (h_X12_isFrom _ _ _ hJ.1) (fun r1 s2 hs2 => ?_)
  have js2 : JM 6474826978673542831106 s s2 := j_call hJ hs2.1 rfl
  refine oq_if (fun c1 => ?_) (fun c1 => ?_)
  · refine oq_b (h_X12_refuse _ js2.1 (by have f0 : (1 : Int32).toInt = 1 := rfl; omega)) (fun r3 s4 hs4 => ?_)
    have js4 : JM 6474826978673542831106 s s4 := j_call js2 hs4.1 rfl
    exact ⟨js4, trivial, fun w9 => False.elim (by have f0 := hs4.2.1; have f1 := i_rg r3; have f2 := i_eq w9; have f3 : (0 : Int32).toInt = 0 := rfl; omega), fun _ => trivial⟩
  · refine oq_if (fun c2 => ?_) (fun c2 => ?_)
    · refine oq_b (h_X12_refuse _ js2.1 (by have f0 : (6 : Int32).toInt = 6 := rfl; omega)) (fun r5 s6 hs6 => ?_)
      have js6 : JM 6474826978673542831106 s s6 := j_call js2 hs6.1 rfl
      exact ⟨js6, trivial, fun w9 => False.elim (by have f0 := hs6.2.1; have f1 := i_rg r5; have f2 := i_eq w9; have f3 : (0 : Int32).toInt = 0 := rfl; omega), fun _ => trivial⟩
    · refine oq_b (h_X12_lives _ js2.1 (row_j hB js2 rfl rfl)) (fun u3 s8 hs8 => ?_)
      have js8 : JM 6474826978673542831106 s s8 := j_call js2 hs8.1 rfl
      exact h_X12_live_b43 BIG _ _ js8 hB (by have f0 : (0 : Int32).toInt = 0 := rfl; omega) (by have g0 : (0 : Int32).toInt = 0 := rfl; have g1 : BIG = 4294967296 := rfl; omega)
theorem h_X12_lived (a1 : Int32) {s : Sg} (hR : Rg rM s) : OQ (f_X12_lived a1 s) (fun r9 s9 => JM 4194304 s s9 ∧ True ∧ (r9 = 0 → 0 ≤ (a1).toInt ∧ (a1).toInt ≤ 4) ∧ (¬ r9 = 0 → True)) := by
  have hJ : JM 4194304 s s := j_refl hR
  unfold f_X12_lived
  refine oq_if (fun c1 => ?_) (fun c1 => ?_)
  · refine oq_b (h_X12_refuse _ hJ.1 (by have f0 : (1 : Int32).toInt = 1 := rfl; omega)) (fun r1 s2 hs2 => ?_)
    have js2 : JM 4194304 s s2 := j_call hJ hs2.1 rfl
    exact ⟨js2, trivial, fun w9 => False.elim (by have f0 := hs2.2.1; have f1 := i_rg r1; have f2 := i_eq w9; have f3 : (0 : Int32).toInt = 0 := rfl; omega), fun _ => trivial⟩
  · refine oq_if (fun c2 => ?_) (fun c2 => ?_)
    · refine oq_if (fun c3 => ?_) (fun c3 => ?_)
      · refine oq_b (h_X12_refuse _ hJ.1 (by have f0 : (6 : Int32).toInt = 6 := rfl; omega)) (fun r3 s4 hs4 => ?_)
        have js4 : JM 4194304 s s4 := j_call hJ hs4.1 rfl
        exact ⟨js4, trivial, fun w9 => False.elim (by have f0 := hs4.2.1; have f1 := i_rg r3; have f2 := i_eq w9; have f3 : (0 : Int32).toInt = 0 := rfl; omega), fun _ => trivial⟩
      · refine oq_c (inr_of (by have f0 := i_rg a1; have f1 := i_nlt c1; have f2 := i_le c2; have f3 : (0 : Int32).toInt = 0 := rfl; have f4 : (4 : Int32).toInt = 4 := rfl; omega)) ?_
        refine oq_b (h_X12_gives _ hJ.1) (fun r6 s7 hs7 => ?_)
        have js7 : JM 4194304 s s7 := j_call hJ hs7.1 rfl
        exact ⟨js7, trivial, fun w9 => ⟨(by have f0 : (0 : Int32).toInt = 0 := rfl; have f1 := i_rg a1; have f2 := i_nlt c1; have f3 := i_le c2; have f4 : (4 : Int32).toInt = 4 := rfl; omega), (by have f0 := i_rg a1; have f1 : (4 : Int32).toInt = 4 := rfl; have f2 := i_nlt c1; have f3 := i_le c2; have f4 : (0 : Int32).toInt = 0 := rfl; omega)⟩, fun _ => trivial⟩
    · refine oq_b (h_X12_refuse _ hJ.1 (by have f0 : (1 : Int32).toInt = 1 := rfl; omega)) (fun r8 s9 hs9 => ?_)
      have js9 : JM 4194304 s s9 := j_call hJ hs9.1 rfl
      exact ⟨js9, trivial, fun w9 => False.elim (by have f0 := hs9.2.1; have f1 := i_rg r8; have f2 := i_eq w9; have f3 : (0 : Int32).toInt = 0 := rfl; omega), fun _ => trivial⟩
theorem h_X12_odds_b77 {s0 : Sg} (n : Nat) : ∀ (v1 : Int32) (v2 : Int32) (v3 : Int32) (v4 : Int32) (v5 : Int32) (s : Sg), JM 10141204811269417050611315117058 s0 s → RowM s0 → 0 ≤ v1.toInt ∧ v1.toInt ≤ 255 → 0 ≤ v5.toInt ∧ v5.toInt ≤ 2147483647 → ((s.1 1 2411).toInt = (s0.1 1 11).toInt ∧ (s.1 1 11).toInt = (s0.1 1 11).toInt) → 2147483647 - v5.toInt < (n : Int) → OQ (f_X12_odds_b77 n v1 v2 v3 v4 v5 s) (fun r9 s9 => JM 10141204811269417050611315117058 s0 s9 ∧ ((0 ≤ r9.toInt ∧ r9.toInt ≤ 1) ∧ ((s9.1 1 11).toInt = (s0.1 1 11).toInt)) ∧ (r9 = 0 → True) ∧ (¬ r9 = 0 → True)) := by
  induction n with
  | zero => intro v1 v2 v3 v4 v5 s hJ hB p_v1 p_v5 x_1 hn; exact False.elim (by have g0 := hn; have g1 := p_v1; have g2 := p_v5; have g3 := i_rg v1; have g4 := i_rg v2; have g5 := i_rg v3; have g6 := i_rg v4; have g7 := i_rg v5; have g8 := x_1; omega)
  | succ n ih =>
    intro v1 v2 v3 v4 v5 s hJ hB p_v1 p_v5 x_1 hn
    unfold f_X12_odds_b77
    refine oq_if (fun c1 => ?_) (fun c1 => ?_)
    · refine oq_b (h_X12_tellsBy _ _ hJ.1 (l_n0 (by have g0 := i_rg v3; have g1 := i_le c1; have g2 := p_v5; have g3 := i_rg v5; omega))) (fun r17 s18 hs18 => ?_)
      have js18 : JM 10141204811269417050611315117058 s0 s18 := j_call hJ hs18.1 rfl
      refine oq_c (b01_of (by have f0 := hs18.2.1; have f1 := i_rg r17; omega)) ?_
      exact ⟨js18, ⟨(by have f0 := hs18.2.1; have f1 := i_rg r17; omega), (by have g0 := hs18.2.1; have g1 := i_rg r17; have g2 := j_rd js18 1 11 (-1) 60 rfl; have g3 : (s18.1 1 11).toInt = (s.1 1 11).toInt := j_fr hs18.1 1 11 71 rfl rfl; have g4 := j_rd hJ 1 11 (-1) 60 rfl; have g5 := x_1; have g6 := j_rd hJ 1 2411 (-1) 60 rfl; omega)⟩, fun _ => trivial, fun _ => trivial⟩
    · refine oq_b (h_X12_lives _ hJ.1 (row_j2 hB hJ rfl x_1.2)) (fun u2 s20 hs20 => ?_)
      have js20 : JM 10141204811269417050611315117058 s0 s20 := j_call hJ hs20.1 rfl
      refine oq_b (h_X12_setOf _ js20.1 (by have f0 : (2 : Int32).toInt = 2 := rfl; omega)) (fun r21 s22 hs22 => ?_)
      have js22 : JM 10141204811269417050611315117058 s0 s22 := j_call js20 hs22.1 rfl
      refine oq_if (fun c3 => ?_) (fun c3 => ?_)
      · refine oq_b (h_X12_takesBack  js22.1) (fun u4 s24 hs24 => ?_)
        have js24 : JM 10141204811269417050611315117058 s0 s24 := j_call js22 hs24.1 rfl
        exact ih _ _ _ _ _ _ js24 hB (by have f0 := p_v1; have f1 := i_rg v1; have f2 := i_eq c3; have f3 := i_and2 (v1) (r21 ^^^ (-1)) (by have f0 := p_v1; have f1 := i_rg v1; omega); have f4 := hs22.2.1; have f5 := i_rg r21; have f6 : ((-1) : Int32).toInt = (-1) := rfl; have f7 : (0 : Int32).toInt = 0 := rfl; omega) (by have f0 := i_add (v5) ((1 : Int32)); have f1 := p_v5; have f2 := i_rg v5; have f3 : (1 : Int32).toInt = 1 := rfl; have f4 := i_nle c1; have f5 := i_rg v3; omega) (by have g0 := j_rd js24 1 2411 (-1) 60 rfl; have g1 : (s24.1 1 2411).toInt = (s22.1 1 2411).toInt := j_fr hs24.1 1 2411 103 rfl rfl; have g2 := hs24.2; have g3 := j_rd js24 1 11 (-1) 60 rfl; have g4 := j_rd js22 1 2411 (-1) 60 rfl; have g5 : (s22.1 1 2411).toInt = (s20.1 1 2411).toInt := j_fr hs22.1 1 2411 103 rfl rfl; have g6 := j_rd js20 1 2411 (-1) 60 rfl; have g7 : (s20.1 1 2411).toInt = (s.1 1 2411).toInt := j_fr hs20.1 1 2411 103 rfl rfl; have g8 := j_rd hJ 1 2411 (-1) 60 rfl; have g9 := x_1; have g10 := j_rd hJ 1 11 (-1) 60 rfl; omega) (by have g0 := i_add (v4) ((1 : Int32)); have g1 := i_add (v5) ((1 : Int32)); have g2 := p_v1; have g3 := i_rg v1; have g4 := i_rg v2; have g5 := i_rg v3; have g6 := i_rg v4; have g7 : (1 : Int32).toInt = 1 := rfl; have g8 := p_v5; have g9 := i_rg v5; have g10 := i_nle c1; have g11 := i_eq c3; have g12 := i_and2 (v1) (r21 ^^^ (-1)) (by have f0 := p_v1; have f1 := i_rg v1; omega); have g13 := hs22.2.1; have g14 := i_rg r21; have g15 : ((-1) : Int32).toInt = (-1) := rfl; have g16 : (0 : Int32).toInt = 0 := rfl; have g17 := hn; omega)
      · refine oq_b (h_X12_takesBack  js22.1) (fun u5 s26 hs26 => ?_)
        have js26 : JM 10141204811269417050611315117058 s0 s26 := j_call js22 hs26.1 rfl
        exact ih _ _ _ _ _ _ js26 hB (by have f0 := p_v1; have f1 := i_rg v1; have f2 := i_ne c3; have f3 := i_and2 (v1) (r21 ^^^ (-1)) (by have f0 := p_v1; have f1 := i_rg v1; omega); have f4 := hs22.2.1; have f5 := i_rg r21; have f6 : ((-1) : Int32).toInt = (-1) := rfl; have f7 : (0 : Int32).toInt = 0 := rfl; omega) (by have f0 := i_add (v5) ((1 : Int32)); have f1 := p_v5; have f2 := i_rg v5; have f3 : (1 : Int32).toInt = 1 := rfl; have f4 := i_nle c1; have f5 := i_rg v3; omega) (by have g0 := j_rd js26 1 2411 (-1) 60 rfl; have g1 : (s26.1 1 2411).toInt = (s22.1 1 2411).toInt := j_fr hs26.1 1 2411 103 rfl rfl; have g2 := hs26.2; have g3 := j_rd js26 1 11 (-1) 60 rfl; have g4 := j_rd js22 1 2411 (-1) 60 rfl; have g5 : (s22.1 1 2411).toInt = (s20.1 1 2411).toInt := j_fr hs22.1 1 2411 103 rfl rfl; have g6 := j_rd js20 1 2411 (-1) 60 rfl; have g7 : (s20.1 1 2411).toInt = (s.1 1 2411).toInt := j_fr hs20.1 1 2411 103 rfl rfl; have g8 := j_rd hJ 1 2411 (-1) 60 rfl; have g9 := x_1; have g10 := j_rd hJ 1 11 (-1) 60 rfl; omega) (by have g0 := i_add (v4) ((0 : Int32)); have g1 := i_add (v5) ((1 : Int32)); have g2 := p_v1; have g3 := i_rg v1; have g4 := i_rg v2; have g5 := i_rg v3; have g6 := i_rg v4; have g7 : (0 : Int32).toInt = 0 := rfl; have g8 := p_v5; have g9 := i_rg v5; have g10 : (1 : Int32).toInt = 1 := rfl; have g11 := i_nle c1; have g12 := i_ne c3; have g13 := i_and2 (v1) (r21 ^^^ (-1)) (by have f0 := p_v1; have f1 := i_rg v1; omega); have g14 := hs22.2.1; have g15 := i_rg r21; have g16 : ((-1) : Int32).toInt = (-1) := rfl; have g17 := hn; omega)
theorem h_X12_odds (a1 : Int32) (a2 : Int32) (a3 : Int32) {s : Sg} (hR : Rg rM s) (hB : RowM s) : OQ (f_X12_odds a1 a2 a3 s) (fun r9 s9 => JM 10141204811269417050611315117058 s s9 ∧ ((0 ≤ r9.toInt ∧ r9.toInt ≤ 1) ∧ ((s9.1 1 11).toInt = (s.1 1 11).toInt)) ∧ (r9 = 0 → True) ∧ (¬ r9 = 0 → True)) := by
  have hJ : JM 10141204811269417050611315117058 s s := j_refl hR
  unfold f_X12_odds
  refine oq_b (h_X12_isSetOf _ hJ.1) (fun r1 s2 hs2 => ?_)
  have js2 : JM 10141204811269417050611315117058 s s2 := j_call hJ hs2.1 rfl
  refine oq_if (fun c1 => ?_) (fun c1 => ?_)
  · refine oq_b (h_X12_is _ js2.1 (by have f0 : (1 : Int32).toInt = 1 := rfl; omega)) (fun r3 s4 hs4 => ?_)
    have js4 : JM 10141204811269417050611315117058 s s4 := j_call js2 hs4.1 rfl
    refine oq_c (b01_of (by have f0 := hs4.2.1; have f1 := i_rg r3; omega)) ?_
    exact ⟨js4, ⟨(by have f0 := hs4.2.1; have f1 := i_rg r3; omega), (by have g0 := hs4.2.1; have g1 := i_rg r3; have g2 := j_rd hJ 1 11 (-1) 60 rfl; have g3 := j_rd js4 1 11 (-1) 60 rfl; have g4 : (s4.1 1 11).toInt = (s2.1 1 11).toInt := j_fr hs4.1 1 11 71 rfl rfl; have g5 := j_rd js2 1 11 (-1) 60 rfl; have g6 : (s2.1 1 11).toInt = (s.1 1 11).toInt := j_fr hs2.1 1 11 71 rfl rfl; omega)⟩, fun _ => trivial, fun w9 => False.elim (by have f0 := hs4.2.1; have f1 := i_rg r3; have f2 := i_ne w9; have f3 := (hs4.2.2.2 w9); have f4 : (0 : Int32).toInt = 0 := rfl; have f5 : (1 : Int32).toInt = 1 := rfl; omega)⟩
  · refine oq_b (h_X12_isFrom _ _ _ js2.1) (fun r5 s6 hs6 => ?_)
    have js6 : JM 10141204811269417050611315117058 s s6 := j_call js2 hs6.1 rfl
    refine oq_if (fun c2 => ?_) (fun c2 => ?_)
    · refine oq_b (h_X12_is _ js6.1 (by have f0 : (1 : Int32).toInt = 1 := rfl; omega)) (fun r7 s8 hs8 => ?_)
      have js8 : JM 10141204811269417050611315117058 s s8 := j_call js6 hs8.1 rfl
      refine oq_c (b01_of (by have f0 := hs8.2.1; have f1 := i_rg r7; omega)) ?_
      exact ⟨js8, ⟨(by have f0 := hs8.2.1; have f1 := i_rg r7; omega), (by have g0 := hs8.2.1; have g1 := i_rg r7; have g2 := j_rd hJ 1 11 (-1) 60 rfl; have g3 := j_rd js8 1 11 (-1) 60 rfl; have g4 : (s8.1 1 11).toInt = (s6.1 1 11).toInt := j_fr hs8.1 1 11 71 rfl rfl; have g5 := j_rd js6 1 11 (-1) 60 rfl; have g6 : (s6.1 1 11).toInt = (s2.1 1 11).toInt := j_fr hs6.1 1 11 71 rfl rfl; have g7 := j_rd js2 1 11 (-1) 60 rfl; have g8 : (s2.1 1 11).toInt = (s.1 1 11).toInt := j_fr hs2.1 1 11 71 rfl rfl; omega)⟩, fun _ => trivial, fun w9 => False.elim (by have f0 := hs8.2.1; have f1 := i_rg r7; have f2 := i_ne w9; have f3 := (hs8.2.2.2 w9); have f4 : (0 : Int32).toInt = 0 := rfl; have f5 : (1 : Int32).toInt = 1 := rfl; omega)⟩
    · refine oq_b (h_X12_isFrom _ _ _ js6.1) (fun r9 s10 hs10 => ?_)
      have js10 : JM 10141204811269417050611315117058 s s10 := j_call js6 hs10.1 rfl
      refine oq_if (fun c3 => ?_) (fun c3 => ?_)
      · refine oq_b (h_X12_is _ js10.1 (by have f0 : (1 : Int32).toInt = 1 := rfl; omega)) (fun r11 s12 hs12 => ?_)
        have js12 : JM 10141204811269417050611315117058 s s12 := j_call js10 hs12.1 rfl
        refine oq_c (b01_of (by have f0 := hs12.2.1; have f1 := i_rg r11; omega)) ?_
        exact ⟨js12, ⟨(by have f0 := hs12.2.1; have f1 := i_rg r11; omega), (by have g0 := hs12.2.1; have g1 := i_rg r11; have g2 := j_rd hJ 1 11 (-1) 60 rfl; have g3 := j_rd js12 1 11 (-1) 60 rfl; have g4 : (s12.1 1 11).toInt = (s10.1 1 11).toInt := j_fr hs12.1 1 11 71 rfl rfl; have g5 := j_rd js10 1 11 (-1) 60 rfl; have g6 : (s10.1 1 11).toInt = (s6.1 1 11).toInt := j_fr hs10.1 1 11 71 rfl rfl; have g7 := j_rd js6 1 11 (-1) 60 rfl; have g8 : (s6.1 1 11).toInt = (s2.1 1 11).toInt := j_fr hs6.1 1 11 71 rfl rfl; have g9 := j_rd js2 1 11 (-1) 60 rfl; have g10 : (s2.1 1 11).toInt = (s.1 1 11).toInt := j_fr hs2.1 1 11 71 rfl rfl; omega)⟩, fun _ => trivial, fun w9 => False.elim (by have f0 := hs12.2.1; have f1 := i_rg r11; have f2 := i_ne w9; have f3 := (hs12.2.2.2 w9); have f4 : (0 : Int32).toInt = 0 := rfl; have f5 : (1 : Int32).toInt = 1 := rfl; omega)⟩
      · refine oq_if (fun c4 => ?_) (fun c4 => ?_)
        · refine oq_if (fun c5 => ?_) (fun c5 => ?_)
          · refine oq_b (h_X12_is _ js10.1 (by have f0 : (6 : Int32).toInt = 6 := rfl; omega)) (fun r13 s14 hs14 => ?_)
            have js14 : JM 10141204811269417050611315117058 s s14 := j_call js10 hs14.1 rfl
            refine oq_c (b01_of (by have f0 := hs14.2.1; have f1 := i_rg r13; omega)) ?_
            exact ⟨js14, ⟨(by have f0 := hs14.2.1; have f1 := i_rg r13; omega), (by have g0 := hs14.2.1; have g1 := i_rg r13; have g2 := j_rd hJ 1 11 (-1) 60 rfl; have g3 := j_rd js14 1 11 (-1) 60 rfl; have g4 : (s14.1 1 11).toInt = (s10.1 1 11).toInt := j_fr hs14.1 1 11 71 rfl rfl; have g5 := j_rd js10 1 11 (-1) 60 rfl; have g6 : (s10.1 1 11).toInt = (s6.1 1 11).toInt := j_fr hs10.1 1 11 71 rfl rfl; have g7 := j_rd js6 1 11 (-1) 60 rfl; have g8 : (s6.1 1 11).toInt = (s2.1 1 11).toInt := j_fr hs6.1 1 11 71 rfl rfl; have g9 := j_rd js2 1 11 (-1) 60 rfl; have g10 : (s2.1 1 11).toInt = (s.1 1 11).toInt := j_fr hs2.1 1 11 71 rfl rfl; have g11 := i_eq c5; have g12 : ((-1) : Int32).toInt = (-1) := rfl; omega)⟩, fun _ => trivial, fun w9 => False.elim (by have f0 := hs14.2.1; have f1 := i_rg r13; have f2 := i_ne w9; have f3 := (hs14.2.2.2 w9); have f4 : (0 : Int32).toInt = 0 := rfl; have f5 : (6 : Int32).toInt = 6 := rfl; omega)⟩
          · refine oq_b (h_X12_keepsAll  js10.1) (fun u6 s16 hs16 => ?_)
            have js16 : JM 10141204811269417050611315117058 s s16 := j_call js10 hs16.1 rfl
            exact h_X12_odds_b77 BIG _ _ _ _ _ _ js16 hB (by have f0 := i_rg a1; have f1 := (hs2.2.2.2 c1).1; have f2 := (hs2.2.2.2 c1).2; have f3 : (0 : Int32).toInt = 0 := rfl; have f4 : (255 : Int32).toInt = 255 := rfl; omega) (by have f0 : (0 : Int32).toInt = 0 := rfl; omega) (by have g0 := hs16.2; have g1 := j_rd js16 1 2411 (-1) 60 rfl; have g2 := j_rd js16 1 11 (-1) 60 rfl; have g3 : (s16.1 1 11).toInt = (s10.1 1 11).toInt := j_fr hs16.1 1 11 71 rfl rfl; have g4 := j_rd hJ 1 11 (-1) 60 rfl; have g5 := j_rd js10 1 11 (-1) 60 rfl; have g6 : (s10.1 1 11).toInt = (s6.1 1 11).toInt := j_fr hs10.1 1 11 71 rfl rfl; have g7 := j_rd js6 1 11 (-1) 60 rfl; have g8 : (s6.1 1 11).toInt = (s2.1 1 11).toInt := j_fr hs6.1 1 11 71 rfl rfl; have g9 := j_rd js2 1 11 (-1) 60 rfl; have g10 : (s2.1 1 11).toInt = (s.1 1 11).toInt := j_fr hs2.1 1 11 71 rfl rfl; have g11 := i_ne c5; have g12 : ((-1) : Int32).toInt = (-1) := rfl; omega) (by have g0 := i_rg a1; have g1 := i_rg a2; have g2 := i_rg a3; have g3 : (0 : Int32).toInt = 0 := rfl; have g4 := (hs2.2.2.2 c1).1; have g5 := (hs2.2.2.2 c1).2; have g6 := i_le c4; have g7 := i_add (a2) (a3); have g8 := i_sub (a2 + a3) ((1 : Int32)); have g9 : (255 : Int32).toInt = 255 := rfl; have g10 : (1 : Int32).toInt = 1 := rfl; have g11 : (9999 : Int32).toInt = 9999 := rfl; have g12 : BIG = 4294967296 := rfl; omega)
        · refine oq_b (h_X12_is _ js10.1 (by have f0 : (1 : Int32).toInt = 1 := rfl; omega)) (fun r27 s28 hs28 => ?_)
          have js28 : JM 10141204811269417050611315117058 s s28 := j_call js10 hs28.1 rfl
          refine oq_c (b01_of (by have f0 := hs28.2.1; have f1 := i_rg r27; omega)) ?_
          exact ⟨js28, ⟨(by have f0 := hs28.2.1; have f1 := i_rg r27; omega), (by have g0 := hs28.2.1; have g1 := i_rg r27; have g2 := j_rd hJ 1 11 (-1) 60 rfl; have g3 := j_rd js28 1 11 (-1) 60 rfl; have g4 : (s28.1 1 11).toInt = (s10.1 1 11).toInt := j_fr hs28.1 1 11 71 rfl rfl; have g5 := j_rd js10 1 11 (-1) 60 rfl; have g6 : (s10.1 1 11).toInt = (s6.1 1 11).toInt := j_fr hs10.1 1 11 71 rfl rfl; have g7 := j_rd js6 1 11 (-1) 60 rfl; have g8 : (s6.1 1 11).toInt = (s2.1 1 11).toInt := j_fr hs6.1 1 11 71 rfl rfl; have g9 := j_rd js2 1 11 (-1) 60 rfl; have g10 : (s2.1 1 11).toInt = (s.1 1 11).toInt := j_fr hs2.1 1 11 71 rfl rfl; omega)⟩, fun _ => trivial, fun w9 => False.elim (by have f0 := hs28.2.1; have f1 := i_rg r27; have f2 := i_ne w9; have f3 := (hs28.2.2.2 w9); have f4 : (0 : Int32).toInt = 0 := rfl; have f5 : (1 : Int32).toInt = 1 := rfl; omega)⟩
theorem h_X12_copies_b41 {s0 : Sg} (n : Nat) : ∀ (v1 : Int32) (v2 : Int32) (v3 : Int32) (s : Sg), JM 3802951810128268248724793196550 s0 s → 0 ≤ v1.toInt ∧ v1.toInt ≤ 3 → 0 ≤ v2.toInt ∧ v2.toInt ≤ 3 → 0 ≤ v3.toInt ∧ v3.toInt ≤ 24 → 24 - v3.toInt < (n : Int) → OQ (f_X12_copies_b41 n v1 v2 v3 s) (fun _ s9 => JM 3802951810128268248724793196550 s0 s9 ∧ True) := by
  induction n with
  | zero => intro v1 v2 v3 s hJ p_v1 p_v2 p_v3 hn; exact False.elim (by have g0 := hn; have g1 := p_v1; have g2 := p_v2; have g3 := p_v3; have g4 := i_rg v1; have g5 := i_rg v2; have g6 := i_rg v3; omega)
  | succ n ih =>
    intro v1 v2 v3 s hJ p_v1 p_v2 p_v3 hn
    unfold f_X12_copies_b41
    refine oq_if (fun c1 => ?_) (fun c1 => ?_)
    · exact ⟨hJ, trivial⟩
    · refine oq_c (inr_of (by have f0 := i_mul ((24 : Int32)) (v1); have f1 := i_add (24 * v1) (v3); have f2 : (24 : Int32).toInt = 24 := rfl; have f3 := p_v1; have f4 := i_rg v1; have f5 := p_v3; have f6 := i_rg v3; have f7 := i_nle c1; omega)) ?_
      refine oq_c (inr_of (by have f0 := i_mul ((24 : Int32)) (v2); have f1 := i_add (24 * v2) (v3); have f2 : (24 : Int32).toInt = 24 := rfl; have f3 := p_v2; have f4 := i_rg v2; have f5 := p_v3; have f6 := i_rg v3; have f7 := i_nle c1; omega)) ?_
      refine oq_n (fun s3 es3 => ?_)
      have js3 : JM 3802951810128268248724793196550 s0 s3 := by rw [es3]; exact (j_wl hJ 2 rfl rfl)
      exact ih _ _ _ _ js3 (by have f0 := p_v1; have f1 := i_rg v1; omega) (by have f0 := p_v2; have f1 := i_rg v2; omega) (by have f0 := i_add (v3) ((1 : Int32)); have f1 := p_v3; have f2 := i_rg v3; have f3 : (1 : Int32).toInt = 1 := rfl; have f4 := i_nle c1; have f5 : (24 : Int32).toInt = 24 := rfl; omega) (by have g0 := i_add (v3) ((1 : Int32)); have g1 := p_v1; have g2 := i_rg v1; have g3 := p_v2; have g4 := i_rg v2; have g5 := p_v3; have g6 := i_rg v3; have g7 : (1 : Int32).toInt = 1 := rfl; have g8 := i_nle c1; have g9 : (24 : Int32).toInt = 24 := rfl; have g10 := hn; omega)
theorem h_X12_copies_b2 {s0 : Sg} (n : Nat) : ∀ (v1 : Int32) (v2 : Int32) (v3 : Int32) (s : Sg), JM 3802951810128268248724793196550 s0 s → 0 ≤ v1.toInt ∧ v1.toInt ≤ 3 → 0 ≤ v2.toInt ∧ v2.toInt ≤ 3 → 0 ≤ v3.toInt ∧ v3.toInt ≤ 511 → 511 - v3.toInt < (n : Int) → OQ (f_X12_copies_b2 n v1 v2 v3 s) (fun _ s9 => JM 3802951810128268248724793196550 s0 s9 ∧ True) := by
  induction n with
  | zero => intro v1 v2 v3 s hJ p_v1 p_v2 p_v3 hn; exact False.elim (by have g0 := hn; have g1 := p_v1; have g2 := p_v2; have g3 := p_v3; have g4 := i_rg v1; have g5 := i_rg v2; have g6 := i_rg v3; omega)
  | succ n ih =>
    intro v1 v2 v3 s hJ p_v1 p_v2 p_v3 hn
    unfold f_X12_copies_b2
    refine oq_if (fun c1 => ?_) (fun c1 => ?_)
    · exact h_X12_copies_b41 BIG _ _ _ _ hJ (by have f0 := p_v1; have f1 := i_rg v1; omega) (by have f0 := p_v2; have f1 := i_rg v2; omega) (by have f0 : (0 : Int32).toInt = 0 := rfl; omega) (by have g0 := p_v1; have g1 := i_rg v1; have g2 := p_v2; have g3 := i_rg v2; have g4 : (0 : Int32).toInt = 0 := rfl; have g5 : BIG = 4294967296 := rfl; omega)
    · refine oq_c (inr_of (by have f0 := i_mul ((480 : Int32)) (v1); have f1 := i_add (480 * v1) (v3); have f2 : (480 : Int32).toInt = 480 := rfl; have f3 := p_v1; have f4 := i_rg v1; have f5 := p_v3; have f6 := i_rg v3; have f7 := i_nle c1; omega)) ?_
      refine oq_c (inr_of (by have f0 := i_mul ((480 : Int32)) (v2); have f1 := i_add (480 * v2) (v3); have f2 : (480 : Int32).toInt = 480 := rfl; have f3 := p_v2; have f4 := i_rg v2; have f5 := p_v3; have f6 := i_rg v3; have f7 := i_nle c1; omega)) ?_
      refine oq_n (fun s6 es6 => ?_)
      have js6 : JM 3802951810128268248724793196550 s0 s6 := by rw [es6]; exact (j_wm hJ (rz_cp hJ (((480 * v2) + v3).toNatClampNeg) (((480 * v1) + v3).toNatClampNeg) (by have d0 := i_mul ((480 : Int32)) (v2); have d1 := i_add (480 * v2) (v3); have d2 : (480 : Int32).toInt = 480 := rfl; have d3 := p_v2; have d4 := i_rg v2; have d5 := p_v3; have d6 := i_rg v3; have d7 := i_nle c1; have d8 := cl_nat ((480 * v2) + v3); have d9 := i_mul ((480 : Int32)) (v1); have d10 := i_add (480 * v1) (v3); have d11 := p_v1; have d12 := i_rg v1; have d13 := cl_nat ((480 * v1) + v3); omega)) (mk_c rfl (by have d0 := i_mul ((480 : Int32)) (v2); have d1 := i_add (480 * v2) (v3); have d2 : (480 : Int32).toInt = 480 := rfl; have d3 := p_v2; have d4 := i_rg v2; have d5 := p_v3; have d6 := i_rg v3; have d7 := i_nle c1; have d8 := cl_nat ((480 * v2) + v3); omega)))
      exact ih _ _ _ _ js6 (by have f0 := p_v1; have f1 := i_rg v1; omega) (by have f0 := p_v2; have f1 := i_rg v2; omega) (by have f0 := i_add (v3) ((1 : Int32)); have f1 := p_v3; have f2 := i_rg v3; have f3 : (1 : Int32).toInt = 1 := rfl; have f4 := i_nle c1; have f5 : (480 : Int32).toInt = 480 := rfl; omega) (by have g0 := i_add (v3) ((1 : Int32)); have g1 := p_v1; have g2 := i_rg v1; have g3 := p_v2; have g4 := i_rg v2; have g5 := p_v3; have g6 := i_rg v3; have g7 : (1 : Int32).toInt = 1 := rfl; have g8 := i_nle c1; have g9 : (480 : Int32).toInt = 480 := rfl; have g10 := hn; omega)
theorem h_X12_copies (a1 : Int32) (a2 : Int32) {s : Sg} (hR : Rg rM s) (p_a1 : 0 ≤ a1.toInt ∧ a1.toInt ≤ 3) (p_a2 : 0 ≤ a2.toInt ∧ a2.toInt ≤ 3) : OQ (f_X12_copies a1 a2 s) (fun _ s9 => JM 3802951810128268248724793196550 s s9 ∧ True) := by
  have hJ : JM 3802951810128268248724793196550 s s := j_refl hR
  unfold f_X12_copies
  exact h_X12_copies_b2 BIG _ _ _ _ hJ (by have f0 := p_a1; have f1 := i_rg a1; omega) (by have f0 := p_a2; have f1 := i_rg a2; omega) (by have f0 : (0 : Int32).toInt = 0 := rfl; omega) (by have g0 := p_a1; have g1 := i_rg a1; have g2 := p_a2; have g3 := i_rg a2; have g4 : (0 : Int32).toInt = 0 := rfl; have g5 : BIG = 4294967296 := rfl; omega)
theorem h_X12_mark  {s : Sg} (hR : Rg rM s) : OQ (f_X12_mark  s) (fun r9 s9 => JM 3802951810128304277521816354822 s s9 ∧ True ∧ (r9 = 0 → True) ∧ (¬ r9 = 0 → True)) := by
  have hJ : JM 3802951810128304277521816354822 s s := j_refl hR
  unfold f_X12_mark
  refine oq_if (fun c1 => ?_) (fun c1 => ?_)
  · refine oq_b (h_X12_refuse _ hJ.1 (by have f0 : (4 : Int32).toInt = 4 := rfl; omega)) (fun r1 s2 hs2 => ?_)
    have js2 : JM 3802951810128304277521816354822 s s2 := j_call hJ hs2.1 rfl
    exact ⟨js2, trivial, fun w9 => False.elim (by have f0 := hs2.2.1; have f1 := i_rg r1; have f2 := i_eq w9; have f3 : (0 : Int32).toInt = 0 := rfl; omega), fun _ => trivial⟩
  · refine oq_b (h_X12_copies _ _ ((j_wr 0 3 hJ rfl 55 rfl rfl (by have f0 := i_add (s.1 0 35) ((1 : Int32)); have f1 := j_rd hJ 0 35 0 3 rfl; have f2 : (1 : Int32).toInt = 1 := rfl; have f3 := i_ne c1; have f4 : (3 : Int32).toInt = 3 := rfl; omega)) : JM 3802951810128304277521816354822 s (pI s 0 35 ((s.1 0 35) + 1))).1 (by have f0 : (0 : Int32).toInt = 0 := rfl; omega) (by have f0 := j_rd ((j_wr 0 3 hJ rfl 55 rfl rfl (by have f0 := i_add (s.1 0 35) ((1 : Int32)); have f1 := j_rd hJ 0 35 0 3 rfl; have f2 : (1 : Int32).toInt = 1 := rfl; have f3 := i_ne c1; have f4 : (3 : Int32).toInt = 3 := rfl; omega)) : JM 3802951810128304277521816354822 s (pI s 0 35 ((s.1 0 35) + 1))) 0 35 0 3 rfl; omega)) (fun u2 s4 hs4 => ?_)
    have js4 : JM 3802951810128304277521816354822 s s4 := j_call ((j_wr 0 3 hJ rfl 55 rfl rfl (by have f0 := i_add (s.1 0 35) ((1 : Int32)); have f1 := j_rd hJ 0 35 0 3 rfl; have f2 : (1 : Int32).toInt = 1 := rfl; have f3 := i_ne c1; have f4 : (3 : Int32).toInt = 3 := rfl; omega)) : JM 3802951810128304277521816354822 s (pI s 0 35 ((s.1 0 35) + 1))) hs4.1 rfl
    refine oq_b (h_X12_gives _ js4.1) (fun r5 s6 hs6 => ?_)
    have js6 : JM 3802951810128304277521816354822 s s6 := j_call js4 hs6.1 rfl
    exact ⟨js6, trivial, fun _ => trivial, fun _ => trivial⟩
theorem h_X12_back  {s : Sg} (hR : Rg rM s) : OQ (f_X12_back  s) (fun r9 s9 => JM 3802951810128304277521816354822 s s9 ∧ True ∧ (r9 = 0 → True) ∧ (¬ r9 = 0 → True)) := by
  have hJ : JM 3802951810128304277521816354822 s s := j_refl hR
  unfold f_X12_back
  refine oq_if (fun c1 => ?_) (fun c1 => ?_)
  · refine oq_b (h_X12_refuse _ hJ.1 (by have f0 : (6 : Int32).toInt = 6 := rfl; omega)) (fun r1 s2 hs2 => ?_)
    have js2 : JM 3802951810128304277521816354822 s s2 := j_call hJ hs2.1 rfl
    exact ⟨js2, trivial, fun w9 => False.elim (by have f0 := hs2.2.1; have f1 := i_rg r1; have f2 := i_eq w9; have f3 : (0 : Int32).toInt = 0 := rfl; omega), fun _ => trivial⟩
  · refine oq_b (h_X12_copies _ _ hJ.1 (by have f0 := j_rd hJ 0 35 0 3 rfl; have f1 := i_ne c1; have f2 : (0 : Int32).toInt = 0 := rfl; omega) (by have f0 : (0 : Int32).toInt = 0 := rfl; omega)) (fun u2 s4 hs4 => ?_)
    have js4 : JM 3802951810128304277521816354822 s s4 := j_call hJ hs4.1 rfl
    refine oq_b (h_X12_gives _ ((j_wr 0 3 js4 rfl 55 rfl rfl (by have f0 := i_sub (s4.1 0 35) ((1 : Int32)); have f1 := j_rd js4 0 35 0 3 rfl; have f2 : (s4.1 0 35).toInt = (s.1 0 35).toInt := j_fr hs4.1 0 35 55 rfl rfl; have f3 : (1 : Int32).toInt = 1 := rfl; have f4 := j_rd hJ 0 35 0 3 rfl; have f5 := i_ne c1; have f6 : (0 : Int32).toInt = 0 := rfl; omega)) : JM 3802951810128304277521816354822 s (pI s4 0 35 ((s4.1 0 35) - 1))).1) (fun r5 s6 hs6 => ?_)
    have js6 : JM 3802951810128304277521816354822 s s6 := j_call ((j_wr 0 3 js4 rfl 55 rfl rfl (by have f0 := i_sub (s4.1 0 35) ((1 : Int32)); have f1 := j_rd js4 0 35 0 3 rfl; have f2 : (s4.1 0 35).toInt = (s.1 0 35).toInt := j_fr hs4.1 0 35 55 rfl rfl; have f3 : (1 : Int32).toInt = 1 := rfl; have f4 := j_rd hJ 0 35 0 3 rfl; have f5 := i_ne c1; have f6 : (0 : Int32).toInt = 0 := rfl; omega)) : JM 3802951810128304277521816354822 s (pI s4 0 35 ((s4.1 0 35) - 1))) hs6.1 rfl
    exact ⟨js6, trivial, fun _ => trivial, fun _ => trivial⟩
