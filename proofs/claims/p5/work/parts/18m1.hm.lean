theorem h_X12_status  {s : Sg} (hR : Rg rM s) : OQ (f_X12_status  s) (fun r9 s9 => JM 0 s s9 ∧ True ∧ (r9 = 0 → True) ∧ (¬ r9 = 0 → True)) := by
  have hJ : JM 0 s s := j_refl hR
  unfold f_X12_status
  exact ⟨hJ, trivial, fun _ => trivial, fun _ => trivial⟩
theorem h_X12_top  {s : Sg} (hR : Rg rM s) : OQ (f_X12_top  s) (fun _ s9 => JM 0 s s9 ∧ True) := by
  have hJ : JM 0 s s := j_refl hR
  unfold f_X12_top
  exact ⟨hJ, trivial⟩
theorem h_X12_bottom  {s : Sg} (hR : Rg rM s) : OQ (f_X12_bottom  s) (fun _ s9 => JM 0 s s9 ∧ True) := by
  have hJ : JM 0 s s := j_refl hR
  unfold f_X12_bottom
  exact ⟨hJ, trivial⟩
theorem h_X12_isTray (a0 : Int32) {s : Sg} (hR : Rg rM s) : OQ (f_X12_isTray a0 s) (fun r9 s9 => JM 0 s s9 ∧ (0 ≤ r9.toInt ∧ r9.toInt ≤ 1) ∧ (r9 = 0 → True) ∧ (¬ r9 = 0 → 0 ≤ (a0).toInt ∧ (a0).toInt ≤ 3)) := by
  have hJ : JM 0 s s := j_refl hR
  unfold f_X12_isTray
  refine oq_if (fun c1 => ?_) (fun c1 => ?_)
  · exact ⟨hJ, (by have f0 : (0 : Int32).toInt = 0 := rfl; omega), fun _ => trivial, fun w9 => absurd rfl w9⟩
  · refine oq_if (fun c2 => ?_) (fun c2 => ?_)
    · exact ⟨hJ, (by have f0 : (0 : Int32).toInt = 0 := rfl; omega), fun _ => trivial, fun w9 => absurd rfl w9⟩
    · exact ⟨hJ, (by have f0 : (1 : Int32).toInt = 1 := rfl; omega), fun w9 => absurd w9 (by decide), fun w9 => ⟨(by have f0 : (0 : Int32).toInt = 0 := rfl; have f1 := i_rg a0; have f2 := i_nlt c1; have f3 := i_nle c2; have f4 : (4 : Int32).toInt = 4 := rfl; omega), (by have f0 := i_rg a0; have f1 : (3 : Int32).toInt = 3 := rfl; have f2 := i_nlt c1; have f3 := i_nle c2; have f4 : (0 : Int32).toInt = 0 := rfl; have f5 : (4 : Int32).toInt = 4 := rfl; omega)⟩⟩
theorem h_X12_is (a1 : Int32) {s : Sg} (hR : Rg rM s) (p_a1 : 0 ≤ a1.toInt ∧ a1.toInt ≤ 8) : OQ (f_X12_is a1 s) (fun r9 s9 => JM 4194304 s s9 ∧ (0 ≤ r9.toInt ∧ r9.toInt ≤ 1) ∧ (r9 = 0 → 1 ≤ (a1).toInt) ∧ (¬ r9 = 0 → (a1).toInt ≤ 0)) := by
  have hJ : JM 4194304 s s := j_refl hR
  unfold f_X12_is
  refine oq_if (fun c1 => ?_) (fun c1 => ?_)
  · exact ⟨(j_wf hJ rfl 22 rfl rfl), (by have f0 : (1 : Int32).toInt = 1 := rfl; omega), fun w9 => absurd w9 (by decide), fun w9 => (by have f0 := p_a1; have f1 := i_rg a1; have f2 : (0 : Int32).toInt = 0 := rfl; have f3 := i_eq c1; omega)⟩
  · exact ⟨(j_wf hJ rfl 22 rfl rfl), (by have f0 : (0 : Int32).toInt = 0 := rfl; omega), fun w9 => (by have f0 : (1 : Int32).toInt = 1 := rfl; have f1 := p_a1; have f2 := i_rg a1; have f3 := i_ne c1; have f4 : (0 : Int32).toInt = 0 := rfl; omega), fun w9 => absurd rfl w9⟩
theorem h_X12_tray_b49 {s0 : Sg} (n : Nat) : ∀ (v1 : Int32) (v3 : Int32) (v4 : Int32) (s : Sg), JM 4194360 s0 s → 0 ≤ v1.toInt ∧ v1.toInt ≤ 3 → 0 ≤ v3.toInt ∧ v3.toInt ≤ 60 → 0 ≤ v4.toInt ∧ v4.toInt ≤ 60 → 60 - v4.toInt < (n : Int) → OQ (f_X12_tray_b49 n v1 v3 v4 s) (fun r9 s9 => JM 4194360 s0 s9 ∧ (0 ≤ r9.toInt ∧ r9.toInt ≤ 1) ∧ (r9 = 0 → True) ∧ (¬ r9 = 0 → True)) := by
  induction n with
  | zero => intro v1 v3 v4 s hJ p_v1 p_v3 p_v4 hn; exact False.elim (by have g0 := hn; have g1 := p_v1; have g2 := p_v3; have g3 := p_v4; have g4 := i_rg v1; have g5 := i_rg v3; have g6 := i_rg v4; omega)
  | succ n ih =>
    intro v1 v3 v4 s hJ p_v1 p_v3 p_v4 hn
    unfold f_X12_tray_b49
    refine oq_if (fun c1 => ?_) (fun c1 => ?_)
    · refine oq_b (h_X12_is _ hJ.1 (by have f0 : (0 : Int32).toInt = 0 := rfl; omega)) (fun r13 s14 hs14 => ?_)
      have js14 : JM 4194360 s0 s14 := j_call hJ hs14.1 rfl
      refine oq_c (b01_of (by have f0 := hs14.2.1; have f1 := i_rg r13; omega)) ?_
      exact ⟨js14, (by have f0 := hs14.2.1; have f1 := i_rg r13; omega), fun w9 => False.elim (by have f0 := hs14.2.1; have f1 := i_rg r13; have f2 := i_eq w9; have f3 := (hs14.2.2.1 w9); have f4 : (0 : Int32).toInt = 0 := rfl; have f5 : (1 : Int32).toInt = 1 := rfl; omega), fun _ => trivial⟩
    · refine oq_c (inr_of (by have f0 := i_mul ((60 : Int32)) (v1); have f1 := i_add (60 * v1) (v4); have f2 : (60 : Int32).toInt = 60 := rfl; have f3 := p_v1; have f4 := i_rg v1; have f5 := p_v4; have f6 := i_rg v4; have f7 := i_nle c1; have f8 := p_v3; have f9 := i_rg v3; omega)) ?_
      refine oq_n (fun s16 es16 => ?_)
      have js16 : JM 4194360 s0 s16 := by rw [es16]; exact (j_wl hJ 5 rfl rfl)
      exact ih _ _ _ _ js16 (by have f0 := p_v1; have f1 := i_rg v1; omega) (by have f0 := p_v3; have f1 := i_rg v3; have f2 := i_nle c1; have f3 := p_v4; have f4 := i_rg v4; omega) (by have f0 := i_add (v4) ((1 : Int32)); have f1 := p_v4; have f2 := i_rg v4; have f3 : (1 : Int32).toInt = 1 := rfl; have f4 := i_nle c1; have f5 := p_v3; have f6 := i_rg v3; omega) (by have g0 := i_add (v4) ((1 : Int32)); have g1 := p_v1; have g2 := i_rg v1; have g3 := p_v3; have g4 := i_rg v3; have g5 := p_v4; have g6 := i_rg v4; have g7 : (1 : Int32).toInt = 1 := rfl; have g8 := i_nle c1; have g9 := hn; omega)
theorem h_X12_tray (a1 : Int32) (a2 : Int32) (a3 : Int32) {s : Sg} (hR : Rg rM s) : OQ (f_X12_tray a1 a2 a3 s) (fun r9 s9 => JM 4194360 s s9 ∧ (0 ≤ r9.toInt ∧ r9.toInt ≤ 1) ∧ (r9 = 0 → True) ∧ (¬ r9 = 0 → True)) := by
  have hJ : JM 4194360 s s := j_refl hR
  unfold f_X12_tray
  refine oq_b (h_X12_isTray _ hJ.1) (fun r1 s2 hs2 => ?_)
  have js2 : JM 4194360 s s2 := j_call hJ hs2.1 rfl
  refine oq_if (fun c1 => ?_) (fun c1 => ?_)
  · refine oq_b (h_X12_is _ js2.1 (by have f0 : (1 : Int32).toInt = 1 := rfl; omega)) (fun r3 s4 hs4 => ?_)
    have js4 : JM 4194360 s s4 := j_call js2 hs4.1 rfl
    refine oq_c (b01_of (by have f0 := hs4.2.1; have f1 := i_rg r3; omega)) ?_
    exact ⟨js4, (by have f0 := hs4.2.1; have f1 := i_rg r3; omega), fun _ => trivial, fun w9 => False.elim (by have f0 := hs4.2.1; have f1 := i_rg r3; have f2 := i_ne w9; have f3 := (hs4.2.2.2 w9); have f4 : (0 : Int32).toInt = 0 := rfl; have f5 : (1 : Int32).toInt = 1 := rfl; omega)⟩
  · refine oq_if (fun c2 => ?_) (fun c2 => ?_)
    · refine oq_b (h_X12_is _ js2.1 (by have f0 : (1 : Int32).toInt = 1 := rfl; omega)) (fun r5 s6 hs6 => ?_)
      have js6 : JM 4194360 s s6 := j_call js2 hs6.1 rfl
      refine oq_c (b01_of (by have f0 := hs6.2.1; have f1 := i_rg r5; omega)) ?_
      exact ⟨js6, (by have f0 := hs6.2.1; have f1 := i_rg r5; omega), fun _ => trivial, fun w9 => False.elim (by have f0 := hs6.2.1; have f1 := i_rg r5; have f2 := i_ne w9; have f3 := (hs6.2.2.2 w9); have f4 : (0 : Int32).toInt = 0 := rfl; have f5 : (1 : Int32).toInt = 1 := rfl; omega)⟩
    · refine oq_if (fun c3 => ?_) (fun c3 => ?_)
      · refine oq_b (h_X12_is _ js2.1 (by have f0 : (1 : Int32).toInt = 1 := rfl; omega)) (fun r7 s8 hs8 => ?_)
        have js8 : JM 4194360 s s8 := j_call js2 hs8.1 rfl
        refine oq_c (b01_of (by have f0 := hs8.2.1; have f1 := i_rg r7; omega)) ?_
        exact ⟨js8, (by have f0 := hs8.2.1; have f1 := i_rg r7; omega), fun _ => trivial, fun w9 => False.elim (by have f0 := hs8.2.1; have f1 := i_rg r7; have f2 := i_ne w9; have f3 := (hs8.2.2.2 w9); have f4 : (0 : Int32).toInt = 0 := rfl; have f5 : (1 : Int32).toInt = 1 := rfl; omega)⟩
      · refine oq_if (fun c4 => ?_) (fun c4 => ?_)
        · refine oq_b (h_X12_is _ js2.1 (by have f0 : (1 : Int32).toInt = 1 := rfl; omega)) (fun r9 s10 hs10 => ?_)
          have js10 : JM 4194360 s s10 := j_call js2 hs10.1 rfl
          refine oq_c (b01_of (by have f0 := hs10.2.1; have f1 := i_rg r9; omega)) ?_
          exact ⟨js10, (by have f0 := hs10.2.1; have f1 := i_rg r9; omega), fun _ => trivial, fun w9 => False.elim (by have f0 := hs10.2.1; have f1 := i_rg r9; have f2 := i_ne w9; have f3 := (hs10.2.2.2 w9); have f4 : (0 : Int32).toInt = 0 := rfl; have f5 : (1 : Int32).toInt = 1 := rfl; omega)⟩
        · refine oq_if (fun c5 => ?_) (fun c5 => ?_)
          · refine oq_c (inr_of (by have f0 := i_rg a1; have f1 := (hs2.2.2.2 c1).1; have f2 := (hs2.2.2.2 c1).2; have f3 : (0 : Int32).toInt = 0 := rfl; have f4 : (3 : Int32).toInt = 3 := rfl; omega)) ?_
            refine oq_n (fun s12 es12 => ?_)
            have js12 : JM 4194360 s s12 := by rw [es12]; exact (j_wr (-1) 60 (j_wf js2 rfl 3 rfl rfl) rfl 4 rfl rfl (by have f0 := i_rg a3; have f1 := i_nlt c4; have f2 := i_le c5; have f3 : (0 : Int32).toInt = 0 := rfl; have f4 : (60 : Int32).toInt = 60 := rfl; omega))
            exact h_X12_tray_b49 BIG _ _ _ _ js12 (by have f0 := i_rg a1; have f1 := (hs2.2.2.2 c1).1; have f2 := (hs2.2.2.2 c1).2; have f3 : (0 : Int32).toInt = 0 := rfl; have f4 : (3 : Int32).toInt = 3 := rfl; omega) (by have f0 := i_rg a3; have f1 := i_nlt c4; have f2 := i_le c5; have f3 : (0 : Int32).toInt = 0 := rfl; have f4 : (60 : Int32).toInt = 60 := rfl; omega) (by have f0 : (0 : Int32).toInt = 0 := rfl; omega) (by have g0 := i_rg a1; have g1 := i_rg a3; have g2 : (0 : Int32).toInt = 0 := rfl; have g3 := (hs2.2.2.2 c1).1; have g4 := (hs2.2.2.2 c1).2; have g5 := i_nlt c4; have g6 := i_le c5; have g7 : (3 : Int32).toInt = 3 := rfl; have g8 : (60 : Int32).toInt = 60 := rfl; have g9 : BIG = 4294967296 := rfl; omega)
          · refine oq_b (h_X12_is _ js2.1 (by have f0 : (1 : Int32).toInt = 1 := rfl; omega)) (fun r17 s18 hs18 => ?_)
            have js18 : JM 4194360 s s18 := j_call js2 hs18.1 rfl
            refine oq_c (b01_of (by have f0 := hs18.2.1; have f1 := i_rg r17; omega)) ?_
            exact ⟨js18, (by have f0 := hs18.2.1; have f1 := i_rg r17; omega), fun _ => trivial, fun w9 => False.elim (by have f0 := hs18.2.1; have f1 := i_rg r17; have f2 := i_ne w9; have f3 := (hs18.2.2.2 w9); have f4 : (0 : Int32).toInt = 0 := rfl; have f5 : (1 : Int32).toInt = 1 := rfl; omega)⟩
theorem h_X12_wrongPlace (a1 : Int32) (a2 : Int32) {s : Sg} (hR : Rg rM s) : OQ (f_X12_wrongPlace a1 a2 s) (fun r9 s9 => JM 0 s s9 ∧ ((0 ≤ r9.toInt ∧ r9.toInt ≤ 3) ∧ (1 ≤ r9.toInt ∨ (0 ≤ a1.toInt ∧ a1.toInt ≤ 3 ∧ 0 ≤ a2.toInt ∧ a2.toInt ≤ 59))) ∧ (r9 = 0 → 0 ≤ (a1).toInt ∧ (a1).toInt ≤ 3 ∧ 0 ≤ (a2).toInt ∧ (a2).toInt ≤ 59) ∧ (¬ r9 = 0 → True)) := by
  have hJ : JM 0 s s := j_refl hR
  unfold f_X12_wrongPlace
  refine oq_b (h_X12_isTray _ hJ.1) (fun r1 s2 hs2 => ?_)
  have js2 : JM 0 s s2 := j_call hJ hs2.1 rfl
  refine oq_if (fun c1 => ?_) (fun c1 => ?_)
  · exact ⟨js2, ⟨(by have f0 : (1 : Int32).toInt = 1 := rfl; omega), (by have g0 : (1 : Int32).toInt = 1 := rfl; have g1 := i_rg a1; have g2 := i_rg a2; omega)⟩, fun w9 => absurd w9 (by decide), fun _ => trivial⟩
  · refine oq_c (inr_of (by have f0 := i_rg a1; have f1 := (hs2.2.2.2 c1).1; have f2 := (hs2.2.2.2 c1).2; have f3 : (0 : Int32).toInt = 0 := rfl; have f4 : (3 : Int32).toInt = 3 := rfl; omega)) ?_
    refine oq_if (fun c2 => ?_) (fun c2 => ?_)
    · exact ⟨js2, ⟨(by have f0 : (2 : Int32).toInt = 2 := rfl; omega), (by have g0 : (2 : Int32).toInt = 2 := rfl; have g1 := i_rg a1; have g2 := i_rg a2; have g3 := (hs2.2.2.2 c1).1; have g4 := (hs2.2.2.2 c1).2; have g5 : (0 : Int32).toInt = 0 := rfl; have g6 : (3 : Int32).toInt = 3 := rfl; omega)⟩, fun w9 => absurd w9 (by decide), fun _ => trivial⟩
    · refine oq_if (fun c3 => ?_) (fun c3 => ?_)
      · exact ⟨js2, ⟨(by have f0 : (3 : Int32).toInt = 3 := rfl; omega), (by have g0 : (3 : Int32).toInt = 3 := rfl; have g1 := i_rg a1; have g2 := i_rg a2; have g3 := (hs2.2.2.2 c1).1; have g4 := (hs2.2.2.2 c1).2; have g5 := i_lt c3; have g6 : (0 : Int32).toInt = 0 := rfl; omega)⟩, fun w9 => absurd w9 (by decide), fun _ => trivial⟩
      · refine oq_if (fun c4 => ?_) (fun c4 => ?_)
        · exact ⟨js2, ⟨(by have f0 : (0 : Int32).toInt = 0 := rfl; omega), (by have g0 : (0 : Int32).toInt = 0 := rfl; have g1 := i_rg a1; have g2 := i_rg a2; have g3 := (hs2.2.2.2 c1).1; have g4 := (hs2.2.2.2 c1).2; have g5 := i_nlt c3; have g6 := i_lt c4; have g7 : (3 : Int32).toInt = 3 := rfl; have g8 := j_rd js2 4 a1.toNatClampNeg (-1) 60 rfl; have g9 : (s2.1 4 a1.toNatClampNeg).toInt = (s.1 4 a1.toNatClampNeg).toInt := j_fr hs2.1 4 a1.toNatClampNeg 4 rfl rfl; have g10 := j_rd hJ 4 a1.toNatClampNeg (-1) 60 rfl; have g11 := i_ne c2; have g12 : ((-1) : Int32).toInt = (-1) := rfl; omega)⟩, fun w9 => ⟨(by have f0 : (0 : Int32).toInt = 0 := rfl; have f1 := i_rg a1; have f2 := (hs2.2.2.2 c1).1; have f3 := (hs2.2.2.2 c1).2; have f4 : (3 : Int32).toInt = 3 := rfl; omega), (by have f0 := i_rg a1; have f1 : (3 : Int32).toInt = 3 := rfl; have f2 := (hs2.2.2.2 c1).1; have f3 := (hs2.2.2.2 c1).2; have f4 : (0 : Int32).toInt = 0 := rfl; omega), (by have f0 : (0 : Int32).toInt = 0 := rfl; have f1 := i_rg a2; have f2 := i_nlt c3; have f3 := i_lt c4; have f4 := j_rd js2 4 a1.toNatClampNeg (-1) 60 rfl; have f5 := i_ne c2; have f6 : ((-1) : Int32).toInt = (-1) := rfl; omega), (by have f0 := i_rg a2; have f1 : (59 : Int32).toInt = 59 := rfl; have f2 := i_nlt c3; have f3 := i_lt c4; have f4 : (0 : Int32).toInt = 0 := rfl; have f5 := j_rd js2 4 a1.toNatClampNeg (-1) 60 rfl; have f6 := i_ne c2; have f7 : ((-1) : Int32).toInt = (-1) := rfl; omega)⟩, fun w9 => absurd rfl w9⟩
        · exact ⟨js2, ⟨(by have f0 : (3 : Int32).toInt = 3 := rfl; omega), (by have g0 : (3 : Int32).toInt = 3 := rfl; have g1 := i_rg a1; have g2 := i_rg a2; have g3 := (hs2.2.2.2 c1).1; have g4 := (hs2.2.2.2 c1).2; have g5 := i_nlt c3; have g6 := i_nlt c4; have g7 : (0 : Int32).toInt = 0 := rfl; have g8 := j_rd js2 4 a1.toNatClampNeg (-1) 60 rfl; have g9 : (s2.1 4 a1.toNatClampNeg).toInt = (s.1 4 a1.toNatClampNeg).toInt := j_fr hs2.1 4 a1.toNatClampNeg 4 rfl rfl; have g10 := j_rd hJ 4 a1.toNatClampNeg (-1) 60 rfl; have g11 := i_ne c2; have g12 : ((-1) : Int32).toInt = (-1) := rfl; omega)⟩, fun w9 => absurd w9 (by decide), fun _ => trivial⟩
theorem h_X12_cut (a0 : Int64) (a1 : Int32) {s : Sg} (hR : Rg rM s) : OQ (f_X12_cut a0 a1 s) (fun _ s9 => JM 0 s s9 ∧ True) := by
  have hJ : JM 0 s s := j_refl hR
  unfold f_X12_cut
  refine oq_if (fun c1 => ?_) (fun c1 => ?_)
  · exact ⟨hJ, trivial⟩
  · refine oq_if (fun c2 => ?_) (fun c2 => ?_)
    · exact ⟨hJ, trivial⟩
    · refine oq_if (fun c3 => ?_) (fun c3 => ?_)
      · exact ⟨hJ, trivial⟩
      · exact ⟨hJ, trivial⟩
theorem h_X12_write (a1 : Int32) (a2 : Int32) (a3 : Int64) {s : Sg} (hR : Rg rM s) : OQ (f_X12_write a1 a2 a3 s) (fun r9 s9 => JM 4194336 s s9 ∧ (0 ≤ r9.toInt ∧ r9.toInt ≤ 1) ∧ (r9 = 0 → True) ∧ (¬ r9 = 0 → 0 ≤ (a1).toInt ∧ (a1).toInt ≤ 3 ∧ 0 ≤ (a2).toInt ∧ (a2).toInt ≤ 59)) := by
  have hJ : JM 4194336 s s := j_refl hR
  unfold f_X12_write
  refine oq_b (h_X12_wrongPlace _ _ hJ.1) (fun r1 s2 hs2 => ?_)
  have js2 : JM 4194336 s s2 := j_call hJ hs2.1 rfl
  refine oq_if (fun c1 => ?_) (fun c1 => ?_)
  · refine oq_c (inr_of (by have f0 := i_rg a1; have f1 := hs2.2.1.2; have f2 := i_eq c1; have f3 := (hs2.2.2.1 c1).1; have f4 := (hs2.2.2.1 c1).2.1; have f5 := (hs2.2.2.1 c1).2.2.1; have f6 := (hs2.2.2.1 c1).2.2.2; have f7 := i_rg a2; have f8 := hs2.2.1; have f9 := i_rg r1; have f10 : (0 : Int32).toInt = 0 := rfl; have f11 : (3 : Int32).toInt = 3 := rfl; have f12 : (59 : Int32).toInt = 59 := rfl; omega)) ?_
    refine oq_b (h_X12_cut _ _ js2.1) (fun r4 s5 hs5 => ?_)
    have js5 : JM 4194336 s s5 := j_call js2 hs5.1 rfl
    refine oq_c (inr_of (by have f0 := i_mul ((60 : Int32)) (a1); have f1 := i_add (60 * a1) (a2); have f2 : (60 : Int32).toInt = 60 := rfl; have f3 := i_rg a1; have f4 := i_rg a2; have f5 := hs2.2.1.2; have f6 := i_eq c1; have f7 := (hs2.2.2.1 c1).1; have f8 := (hs2.2.2.1 c1).2.1; have f9 := (hs2.2.2.1 c1).2.2.1; have f10 := (hs2.2.2.1 c1).2.2.2; have f11 := hs2.2.1; have f12 := i_rg r1; have f13 : (0 : Int32).toInt = 0 := rfl; have f14 : (3 : Int32).toInt = 3 := rfl; have f15 : (59 : Int32).toInt = 59 := rfl; omega)) ?_
    refine oq_n (fun s7 es7 => ?_)
    have js7 : JM 4194336 s s7 := by rw [es7]; exact (j_wl js5 5 rfl rfl)
    refine oq_b (h_X12_is _ js7.1 (by have f0 := hs2.2.1; have f1 := i_rg r1; have f2 := hs2.2.1.2; have f3 := i_rg a1; have f4 := i_rg a2; have f5 := i_eq c1; have f6 := (hs2.2.2.1 c1).1; have f7 := (hs2.2.2.1 c1).2.1; have f8 := (hs2.2.2.1 c1).2.2.1; have f9 := (hs2.2.2.1 c1).2.2.2; have f10 : (0 : Int32).toInt = 0 := rfl; have f11 : (3 : Int32).toInt = 3 := rfl; have f12 : (59 : Int32).toInt = 59 := rfl; omega)) (fun r8 s9 hs9 => ?_)
    have js9 : JM 4194336 s s9 := j_call js7 hs9.1 rfl
    refine oq_c (b01_of (by have f0 := hs9.2.1; have f1 := i_rg r8; omega)) ?_
    exact ⟨js9, (by have f0 := hs9.2.1; have f1 := i_rg r8; omega), fun w9 => False.elim (by have f0 := hs9.2.1; have f1 := i_rg r8; have f2 := i_eq w9; have f3 : (0 : Int32).toInt = 0 := rfl; omega), fun w9 => ⟨(by have f0 : (0 : Int32).toInt = 0 := rfl; have f1 := i_rg a1; have f2 := hs2.2.1.2; have f3 := i_eq c1; have f4 := (hs2.2.2.1 c1).1; have f5 := (hs2.2.2.1 c1).2.1; have f6 := (hs2.2.2.1 c1).2.2.1; have f7 := (hs2.2.2.1 c1).2.2.2; have f8 := (hs9.2.2.2 w9); have f9 := i_rg a2; have f10 := hs2.2.1; have f11 := i_rg r1; have f12 : (3 : Int32).toInt = 3 := rfl; have f13 : (59 : Int32).toInt = 59 := rfl; omega), (by have f0 := i_rg a1; have f1 : (3 : Int32).toInt = 3 := rfl; have f2 := hs2.2.1.2; have f3 := i_eq c1; have f4 := (hs2.2.2.1 c1).1; have f5 := (hs2.2.2.1 c1).2.1; have f6 := (hs2.2.2.1 c1).2.2.1; have f7 := (hs2.2.2.1 c1).2.2.2; have f8 := (hs9.2.2.2 w9); have f9 := i_rg a2; have f10 := hs2.2.1; have f11 := i_rg r1; have f12 : (0 : Int32).toInt = 0 := rfl; have f13 : (59 : Int32).toInt = 59 := rfl; omega), (by have f0 : (0 : Int32).toInt = 0 := rfl; have f1 := i_rg a2; have f2 := hs2.2.1.2; have f3 := i_eq c1; have f4 := (hs2.2.2.1 c1).1; have f5 := (hs2.2.2.1 c1).2.1; have f6 := (hs2.2.2.1 c1).2.2.1; have f7 := (hs2.2.2.1 c1).2.2.2; have f8 := (hs9.2.2.2 w9); have f9 := i_rg a1; have f10 := hs2.2.1; have f11 := i_rg r1; have f12 : (3 : Int32).toInt = 3 := rfl; have f13 : (59 : Int32).toInt = 59 := rfl; omega), (by have f0 := i_rg a2; have f1 : (59 : Int32).toInt = 59 := rfl; have f2 := hs2.2.1.2; have f3 := i_eq c1; have f4 := (hs2.2.2.1 c1).1; have f5 := (hs2.2.2.1 c1).2.1; have f6 := (hs2.2.2.1 c1).2.2.1; have f7 := (hs2.2.2.1 c1).2.2.2; have f8 := (hs9.2.2.2 w9); have f9 := i_rg a1; have f10 := hs2.2.1; have f11 := i_rg r1; have f12 : (0 : Int32).toInt = 0 := rfl; have f13 : (3 : Int32).toInt = 3 := rfl; omega)⟩⟩
  · refine oq_b (h_X12_is _ js2.1 (by have f0 := hs2.2.1; have f1 := i_rg r1; have f2 := hs2.2.1.2; have f3 := i_rg a1; have f4 := i_rg a2; have f5 := i_ne c1; have f6 : (0 : Int32).toInt = 0 := rfl; omega)) (fun r10 s11 hs11 => ?_)
    have js11 : JM 4194336 s s11 := j_call js2 hs11.1 rfl
    refine oq_c (b01_of (by have f0 := hs11.2.1; have f1 := i_rg r10; omega)) ?_
    exact ⟨js11, (by have f0 := hs11.2.1; have f1 := i_rg r10; omega), fun _ => trivial, fun w9 => False.elim (by have f0 := hs11.2.1; have f1 := i_rg r10; have f2 := i_ne w9; have f3 : (0 : Int32).toInt = 0 := rfl; omega)⟩
theorem h_X12_read (a1 : Int32) (a2 : Int32) {s : Sg} (hR : Rg rM s) : OQ (f_X12_read a1 a2 s) (fun _ s9 => JM 4194304 s s9 ∧ True) := by
  have hJ : JM 4194304 s s := j_refl hR
  unfold f_X12_read
  refine oq_b (h_X12_wrongPlace _ _ hJ.1) (fun r1 s2 hs2 => ?_)
  have js2 : JM 4194304 s s2 := j_call hJ hs2.1 rfl
  refine oq_if (fun c1 => ?_) (fun c1 => ?_)
  · refine oq_c (inr_of (by have f0 := i_mul ((60 : Int32)) (a1); have f1 := i_add (60 * a1) (a2); have f2 : (60 : Int32).toInt = 60 := rfl; have f3 := i_rg a1; have f4 := i_rg a2; have f5 := hs2.2.1.2; have f6 := i_le c1; have f7 := hs2.2.1; have f8 := i_rg r1; have f9 : ((pI s2 0 2 r1).1 0 2).toInt = (r1).toInt := u_eq; have f10 := i_rg ((pI s2 0 2 r1).1 0 2); have f11 : (0 : Int32).toInt = 0 := rfl; omega)) ?_
    exact ⟨(j_wf js2 rfl 22 rfl rfl), trivial⟩
  · exact ⟨(j_wf js2 rfl 22 rfl rfl), trivial⟩
theorem h_X12_pour_b143 {s0 : Sg} (k_118 : Int32 → Int32 → Int32 → Int32 → Int32 → Int32 → Sg → Option (Int32 × Sg)) (m_118 : Nat) (hk_118 : ∀ (v1 : Int32) (v2 : Int32) (v3 : Int32) (v4 : Int32) (v5 : Int32) (v6 : Int32) (s : Sg), JM 4194336 s0 s → 0 ≤ v1.toInt ∧ v1.toInt ≤ 3 → 0 ≤ v2.toInt ∧ v2.toInt ≤ 2147483647 → 0 ≤ v3.toInt ∧ v3.toInt ≤ 3 → 0 ≤ v4.toInt ∧ v4.toInt ≤ 2147483647 → 0 ≤ v5.toInt ∧ v5.toInt ≤ 60 → 0 ≤ v6.toInt ∧ v6.toInt ≤ 60 → (0 ≤ v2.toInt ∧ 0 ≤ v4.toInt ∧ v2.toInt + v5.toInt ≤ 60 ∧ v4.toInt + v5.toInt ≤ 60) → 60 - v6.toInt < (m_118 : Int) → OQ (k_118 v1 v2 v3 v4 v5 v6 s) (fun r9 s9 => JM 4194336 s0 s9 ∧ (0 ≤ r9.toInt ∧ r9.toInt ≤ 1) ∧ (r9 = 0 → True) ∧ (¬ r9 = 0 → True))) (v1 : Int32) (v2 : Int32) (v3 : Int32) (v4 : Int32) (v5 : Int32) (v6 : Int32) (t0 : Int32) (s : Sg) (hJ : JM 4194336 s0 s) (p_v1 : 0 ≤ v1.toInt ∧ v1.toInt ≤ 3) (p_v2 : 0 ≤ v2.toInt ∧ v2.toInt ≤ 2147483647) (p_v3 : 0 ≤ v3.toInt ∧ v3.toInt ≤ 3) (p_v4 : 0 ≤ v4.toInt ∧ v4.toInt ≤ 2147483647) (p_v5 : 1 ≤ v5.toInt ∧ v5.toInt ≤ 60) (p_v6 : 0 ≤ v6.toInt ∧ v6.toInt ≤ 59) (p_t0 : 0 ≤ t0.toInt ∧ t0.toInt ≤ 59) (x_1 : (0 ≤ v2.toInt ∧ 0 ≤ v4.toInt ∧ v2.toInt + v5.toInt ≤ 60 ∧ v4.toInt + v5.toInt ≤ 60 ∧ 0 ≤ t0.toInt ∧ t0.toInt < v5.toInt)) (hm_118 : 60 - v6.toInt < (m_118 : Int) + 1) : OQ (f_X12_pour_b143 k_118 v1 v2 v3 v4 v5 v6 t0 s) (fun r9 s9 => JM 4194336 s0 s9 ∧ (0 ≤ r9.toInt ∧ r9.toInt ≤ 1) ∧ (r9 = 0 → True) ∧ (¬ r9 = 0 → True)) := by
  unfold f_X12_pour_b143
  refine oq_c (inr_of (by have f0 := i_mul ((60 : Int32)) (v1); have f1 := i_add (60 * v1) (v2); have f2 := i_add ((60 * v1) + v2) (t0); have f3 : (60 : Int32).toInt = 60 := rfl; have f4 := p_v1; have f5 := i_rg v1; have f6 := p_v2; have f7 := i_rg v2; have f8 := p_t0; have f9 := i_rg t0; have f10 := x_1; have f11 := p_v4; have f12 := i_rg v4; have f13 := p_v5; have f14 := i_rg v5; omega)) ?_
  refine oq_c (inr_of (by have f0 := i_mul ((60 : Int32)) (v3); have f1 := i_add (60 * v3) (v4); have f2 := i_add ((60 * v3) + v4) (t0); have f3 : (60 : Int32).toInt = 60 := rfl; have f4 := p_v3; have f5 := i_rg v3; have f6 := p_v4; have f7 := i_rg v4; have f8 := p_t0; have f9 := i_rg t0; have f10 := x_1; have f11 := p_v2; have f12 := i_rg v2; have f13 := p_v5; have f14 := i_rg v5; omega)) ?_
  refine oq_n (fun s25 es25 => ?_)
  have js25 : JM 4194336 s0 s25 := by rw [es25]; exact (j_wl hJ 5 rfl rfl)
  exact hk_118 _ _ _ _ _ _ _ js25 (by have f0 := p_v1; have f1 := i_rg v1; omega) (by have f0 := p_v2; have f1 := i_rg v2; have f2 := x_1; have f3 := p_v4; have f4 := i_rg v4; have f5 := p_v5; have f6 := i_rg v5; have f7 := p_t0; have f8 := i_rg t0; omega) (by have f0 := p_v3; have f1 := i_rg v3; omega) (by have f0 := p_v4; have f1 := i_rg v4; have f2 := x_1; have f3 := p_v2; have f4 := i_rg v2; have f5 := p_v5; have f6 := i_rg v5; have f7 := p_t0; have f8 := i_rg t0; omega) (by have f0 := p_v5; have f1 := i_rg v5; have f2 := x_1; have f3 := p_v2; have f4 := i_rg v2; have f5 := p_v4; have f6 := i_rg v4; have f7 := p_t0; have f8 := i_rg t0; omega) (by have f0 := i_add (v6) ((1 : Int32)); have f1 := p_v6; have f2 := i_rg v6; have f3 : (1 : Int32).toInt = 1 := rfl; omega) (by have g0 := p_v2; have g1 := i_rg v2; have g2 := p_v4; have g3 := i_rg v4; have g4 := p_v5; have g5 := i_rg v5; have g6 := x_1; have g7 := p_t0; have g8 := i_rg t0; omega) (by have g0 := i_add (v6) ((1 : Int32)); have g1 := p_v1; have g2 := i_rg v1; have g3 := p_v2; have g4 := i_rg v2; have g5 := p_v3; have g6 := i_rg v3; have g7 := p_v4; have g8 := i_rg v4; have g9 := p_v5; have g10 := i_rg v5; have g11 := p_v6; have g12 := i_rg v6; have g13 : (1 : Int32).toInt = 1 := rfl; have g14 := x_1; have g15 := p_t0; have g16 := i_rg t0; have g17 := hm_118; omega)
theorem h_X12_pour_b118 {s0 : Sg} (n : Nat) : ∀ (v1 : Int32) (v2 : Int32) (v3 : Int32) (v4 : Int32) (v5 : Int32) (v6 : Int32) (s : Sg), JM 4194336 s0 s → 0 ≤ v1.toInt ∧ v1.toInt ≤ 3 → 0 ≤ v2.toInt ∧ v2.toInt ≤ 2147483647 → 0 ≤ v3.toInt ∧ v3.toInt ≤ 3 → 0 ≤ v4.toInt ∧ v4.toInt ≤ 2147483647 → 0 ≤ v5.toInt ∧ v5.toInt ≤ 60 → 0 ≤ v6.toInt ∧ v6.toInt ≤ 60 → (0 ≤ v2.toInt ∧ 0 ≤ v4.toInt ∧ v2.toInt + v5.toInt ≤ 60 ∧ v4.toInt + v5.toInt ≤ 60) → 60 - v6.toInt < (n : Int) → OQ (f_X12_pour_b118 n v1 v2 v3 v4 v5 v6 s) (fun r9 s9 => JM 4194336 s0 s9 ∧ (0 ≤ r9.toInt ∧ r9.toInt ≤ 1) ∧ (r9 = 0 → True) ∧ (¬ r9 = 0 → True)) := by
  induction n with
  | zero => intro v1 v2 v3 v4 v5 v6 s hJ p_v1 p_v2 p_v3 p_v4 p_v5 p_v6 x_1 hn; exact False.elim (by have g0 := hn; have g1 := p_v1; have g2 := p_v2; have g3 := p_v3; have g4 := p_v4; have g5 := p_v5; have g6 := p_v6; have g7 := i_rg v1; have g8 := i_rg v2; have g9 := i_rg v3; have g10 := i_rg v4; have g11 := i_rg v5; have g12 := i_rg v6; have g13 := x_1; omega)
  | succ n ih =>
    intro v1 v2 v3 v4 v5 v6 s hJ p_v1 p_v2 p_v3 p_v4 p_v5 p_v6 x_1 hn
    unfold f_X12_pour_b118
    refine oq_if (fun c1 => ?_) (fun c1 => ?_)
    · refine oq_b (h_X12_is _ hJ.1 (by have f0 : (0 : Int32).toInt = 0 := rfl; omega)) (fun r21 s22 hs22 => ?_)
      have js22 : JM 4194336 s0 s22 := j_call hJ hs22.1 rfl
      refine oq_c (b01_of (by have f0 := hs22.2.1; have f1 := i_rg r21; omega)) ?_
      exact ⟨js22, (by have f0 := hs22.2.1; have f1 := i_rg r21; omega), fun w9 => False.elim (by have f0 := hs22.2.1; have f1 := i_rg r21; have f2 := i_eq w9; have f3 := (hs22.2.2.1 w9); have f4 : (0 : Int32).toInt = 0 := rfl; have f5 : (1 : Int32).toInt = 1 := rfl; omega), fun _ => trivial⟩
    · refine oq_if (fun c2 => ?_) (fun c2 => ?_)
      · exact h_X12_pour_b143 _ n ih _ _ _ _ _ _ _ _ hJ (by have f0 := p_v1; have f1 := i_rg v1; omega) (by have f0 := p_v2; have f1 := i_rg v2; have f2 := x_1; have f3 := i_nle c1; have f4 := i_le c2; have f5 := p_v4; have f6 := i_rg v4; have f7 := p_v5; have f8 := i_rg v5; have f9 := p_v6; have f10 := i_rg v6; omega) (by have f0 := p_v3; have f1 := i_rg v3; omega) (by have f0 := p_v4; have f1 := i_rg v4; have f2 := x_1; have f3 := i_nle c1; have f4 := i_le c2; have f5 := p_v2; have f6 := i_rg v2; have f7 := p_v5; have f8 := i_rg v5; have f9 := p_v6; have f10 := i_rg v6; omega) (by have f0 := p_v5; have f1 := i_rg v5; have f2 := x_1; have f3 := i_nle c1; have f4 := i_le c2; have f5 := p_v2; have f6 := i_rg v2; have f7 := p_v4; have f8 := i_rg v4; have f9 := p_v6; have f10 := i_rg v6; omega) (by have f0 := p_v6; have f1 := i_rg v6; have f2 := i_nle c1; have f3 := p_v5; have f4 := i_rg v5; have f5 := x_1; have f6 := i_le c2; have f7 := p_v2; have f8 := i_rg v2; have f9 := p_v4; have f10 := i_rg v4; omega) (by have f0 := p_v6; have f1 := i_rg v6; have f2 := i_nle c1; have f3 := p_v5; have f4 := i_rg v5; have f5 := x_1; have f6 := i_le c2; have f7 := p_v2; have f8 := i_rg v2; have f9 := p_v4; have f10 := i_rg v4; omega) (by have g0 := p_v2; have g1 := i_rg v2; have g2 := p_v4; have g3 := i_rg v4; have g4 := p_v5; have g5 := i_rg v5; have g6 := p_v6; have g7 := i_rg v6; have g8 := x_1; have g9 := i_nle c1; have g10 := i_le c2; omega) (by have g0 := p_v1; have g1 := i_rg v1; have g2 := p_v2; have g3 := i_rg v2; have g4 := p_v3; have g5 := i_rg v3; have g6 := p_v4; have g7 := i_rg v4; have g8 := p_v5; have g9 := i_rg v5; have g10 := p_v6; have g11 := i_rg v6; have g12 := x_1; have g13 := i_nle c1; have g14 := i_le c2; have g15 := hn; omega)
      · exact h_X12_pour_b143 _ n ih _ _ _ _ _ _ _ _ hJ (by have f0 := p_v1; have f1 := i_rg v1; omega) (by have f0 := p_v2; have f1 := i_rg v2; have f2 := x_1; have f3 := i_nle c1; have f4 := i_nle c2; have f5 := p_v4; have f6 := i_rg v4; have f7 := p_v5; have f8 := i_rg v5; have f9 := p_v6; have f10 := i_rg v6; omega) (by have f0 := p_v3; have f1 := i_rg v3; omega) (by have f0 := p_v4; have f1 := i_rg v4; have f2 := x_1; have f3 := i_nle c1; have f4 := i_nle c2; have f5 := p_v2; have f6 := i_rg v2; have f7 := p_v5; have f8 := i_rg v5; have f9 := p_v6; have f10 := i_rg v6; omega) (by have f0 := p_v5; have f1 := i_rg v5; have f2 := x_1; have f3 := i_nle c1; have f4 := i_nle c2; have f5 := p_v2; have f6 := i_rg v2; have f7 := p_v4; have f8 := i_rg v4; have f9 := p_v6; have f10 := i_rg v6; omega) (by have f0 := p_v6; have f1 := i_rg v6; have f2 := i_nle c1; have f3 := p_v5; have f4 := i_rg v5; have f5 := x_1; have f6 := i_nle c2; have f7 := p_v2; have f8 := i_rg v2; have f9 := p_v4; have f10 := i_rg v4; omega) (by have f0 := i_sub (v5) ((1 : Int32)); have f1 := i_sub (v5 - 1) (v6); have f2 := p_v5; have f3 := i_rg v5; have f4 : (1 : Int32).toInt = 1 := rfl; have f5 := p_v6; have f6 := i_rg v6; have f7 := x_1; have f8 := i_nle c1; have f9 := i_nle c2; have f10 := p_v2; have f11 := i_rg v2; have f12 := p_v4; have f13 := i_rg v4; omega) (by have g0 := i_sub (v5) ((1 : Int32)); have g1 := i_sub (v5 - 1) (v6); have g2 := p_v2; have g3 := i_rg v2; have g4 := p_v4; have g5 := i_rg v4; have g6 := p_v5; have g7 := i_rg v5; have g8 : (1 : Int32).toInt = 1 := rfl; have g9 := p_v6; have g10 := i_rg v6; have g11 := x_1; have g12 := i_nle c1; have g13 := i_nle c2; omega) (by have g0 := i_sub (v5) ((1 : Int32)); have g1 := i_sub (v5 - 1) (v6); have g2 := p_v1; have g3 := i_rg v1; have g4 := p_v2; have g5 := i_rg v2; have g6 := p_v3; have g7 := i_rg v3; have g8 := p_v4; have g9 := i_rg v4; have g10 := p_v5; have g11 := i_rg v5; have g12 := p_v6; have g13 := i_rg v6; have g14 : (1 : Int32).toInt = 1 := rfl; have g15 := x_1; have g16 := i_nle c1; have g17 := i_nle c2; have g18 := hn; omega)
theorem h_X12_pour (a1 : Int32) (a2 : Int32) (a3 : Int32) (a4 : Int32) (a5 : Int32) {s : Sg} (hR : Rg rM s) : OQ (f_X12_pour a1 a2 a3 a4 a5 s) (fun r9 s9 => JM 4194336 s s9 ∧ (0 ≤ r9.toInt ∧ r9.toInt ≤ 1) ∧ (r9 = 0 → True) ∧ (¬ r9 = 0 → True)) := by
  have hJ : JM 4194336 s s := j_refl hR
  unfold f_X12_pour
  refine oq_b (h_X12_isTray _ hJ.1) (fun r1 s2 hs2 => ?_)
  have js2 : JM 4194336 s s2 := j_call hJ hs2.1 rfl
  refine oq_if (fun c1 => ?_) (fun c1 => ?_)
  · refine oq_b (h_X12_is _ js2.1 (by have f0 : (1 : Int32).toInt = 1 := rfl; omega)) (fun r3 s4 hs4 => ?_)
    have js4 : JM 4194336 s s4 := j_call js2 hs4.1 rfl
    refine oq_c (b01_of (by have f0 := hs4.2.1; have f1 := i_rg r3; omega)) ?_
    exact ⟨js4, (by have f0 := hs4.2.1; have f1 := i_rg r3; omega), fun _ => trivial, fun w9 => False.elim (by have f0 := hs4.2.1; have f1 := i_rg r3; have f2 := i_ne w9; have f3 := (hs4.2.2.2 w9); have f4 : (0 : Int32).toInt = 0 := rfl; have f5 : (1 : Int32).toInt = 1 := rfl; omega)⟩
  · refine oq_b (h_X12_isTray _ js2.1) (fun r5 s6 hs6 => ?_)
    have js6 : JM 4194336 s s6 := j_call js2 hs6.1 rfl
    refine oq_if (fun c2 => ?_) (fun c2 => ?_)
    · refine oq_b (h_X12_is _ js6.1 (by have f0 : (1 : Int32).toInt = 1 := rfl; omega)) (fun r7 s8 hs8 => ?_)
      have js8 : JM 4194336 s s8 := j_call js6 hs8.1 rfl
      refine oq_c (b01_of (by have f0 := hs8.2.1; have f1 := i_rg r7; omega)) ?_
      exact ⟨js8, (by have f0 := hs8.2.1; have f1 := i_rg r7; omega), fun _ => trivial, fun w9 => False.elim (by have f0 := hs8.2.1; have f1 := i_rg r7; have f2 := i_ne w9; have f3 := (hs8.2.2.2 w9); have f4 : (0 : Int32).toInt = 0 := rfl; have f5 : (1 : Int32).toInt = 1 := rfl; omega)⟩
    · refine oq_if (fun c3 => ?_) (fun c3 => ?_)
      · refine oq_b (h_X12_is _ js6.1 (by have f0 : (1 : Int32).toInt = 1 := rfl; omega)) (fun r9 s10 hs10 => ?_)
        have js10 : JM 4194336 s s10 := j_call js6 hs10.1 rfl
        refine oq_c (b01_of (by have f0 := hs10.2.1; have f1 := i_rg r9; omega)) ?_
        exact ⟨js10, (by have f0 := hs10.2.1; have f1 := i_rg r9; omega), fun _ => trivial, fun w9 => False.elim (by have f0 := hs10.2.1; have f1 := i_rg r9; have f2 := i_ne w9; have f3 := (hs10.2.2.2 w9); have f4 : (0 : Int32).toInt = 0 := rfl; have f5 : (1 : Int32).toInt = 1 := rfl; omega)⟩
      · refine oq_if (fun c4 => ?_) (fun c4 => ?_)
        · refine oq_b (h_X12_is _ js6.1 (by have f0 : (1 : Int32).toInt = 1 := rfl; omega)) (fun r11 s12 hs12 => ?_)
          have js12 : JM 4194336 s s12 := j_call js6 hs12.1 rfl
          refine oq_c (b01_of (by have f0 := hs12.2.1; have f1 := i_rg r11; omega)) ?_
          exact ⟨js12, (by have f0 := hs12.2.1; have f1 := i_rg r11; omega), fun _ => trivial, fun w9 => False.elim (by have f0 := hs12.2.1; have f1 := i_rg r11; have f2 := i_ne w9; have f3 := (hs12.2.2.2 w9); have f4 : (0 : Int32).toInt = 0 := rfl; have f5 : (1 : Int32).toInt = 1 := rfl; omega)⟩
        · refine oq_if (fun c5 => ?_) (fun c5 => ?_)
          · refine oq_c (inr_of (by have f0 := i_rg a1; have f1 := (hs2.2.2.2 c1).1; have f2 := (hs2.2.2.2 c1).2; have f3 : (0 : Int32).toInt = 0 := rfl; have f4 : (3 : Int32).toInt = 3 := rfl; omega)) ?_
            refine oq_if (fun c6 => ?_) (fun c6 => ?_)
            · refine oq_b (h_X12_is _ js6.1 (by have f0 : (2 : Int32).toInt = 2 := rfl; omega)) (fun r14 s15 hs15 => ?_)
              have js15 : JM 4194336 s s15 := j_call js6 hs15.1 rfl
              refine oq_c (b01_of (by have f0 := hs15.2.1; have f1 := i_rg r14; omega)) ?_
              exact ⟨js15, (by have f0 := hs15.2.1; have f1 := i_rg r14; omega), fun _ => trivial, fun w9 => False.elim (by have f0 := hs15.2.1; have f1 := i_rg r14; have f2 := i_ne w9; have f3 := (hs15.2.2.2 w9); have f4 : (0 : Int32).toInt = 0 := rfl; have f5 : (2 : Int32).toInt = 2 := rfl; omega)⟩
            · refine oq_c (inr_of (by have f0 := i_rg a3; have f1 := (hs6.2.2.2 c2).1; have f2 := (hs6.2.2.2 c2).2; have f3 : (0 : Int32).toInt = 0 := rfl; have f4 : (3 : Int32).toInt = 3 := rfl; omega)) ?_
              refine oq_if (fun c7 => ?_) (fun c7 => ?_)
              · refine oq_b (h_X12_is _ js6.1 (by have f0 : (2 : Int32).toInt = 2 := rfl; omega)) (fun r17 s18 hs18 => ?_)
                have js18 : JM 4194336 s s18 := j_call js6 hs18.1 rfl
                refine oq_c (b01_of (by have f0 := hs18.2.1; have f1 := i_rg r17; omega)) ?_
                exact ⟨js18, (by have f0 := hs18.2.1; have f1 := i_rg r17; omega), fun _ => trivial, fun w9 => False.elim (by have f0 := hs18.2.1; have f1 := i_rg r17; have f2 := i_ne w9; have f3 := (hs18.2.2.2 w9); have f4 : (0 : Int32).toInt = 0 := rfl; have f5 : (2 : Int32).toInt = 2 := rfl; omega)⟩
              · refine oq_if (fun c8 => ?_) (fun c8 => ?_)
                · refine oq_if (fun c9 => ?_) (fun c9 => ?_)
                  · refine oq_b (h_X12_is _ js6.1 (by have f0 : (3 : Int32).toInt = 3 := rfl; omega)) (fun r19 s20 hs20 => ?_)
                    have js20 : JM 4194336 s s20 := j_call js6 hs20.1 rfl
                    refine oq_c (b01_of (by have f0 := hs20.2.1; have f1 := i_rg r19; omega)) ?_
                    exact ⟨js20, (by have f0 := hs20.2.1; have f1 := i_rg r19; omega), fun _ => trivial, fun w9 => False.elim (by have f0 := hs20.2.1; have f1 := i_rg r19; have f2 := i_ne w9; have f3 := (hs20.2.2.2 w9); have f4 : (0 : Int32).toInt = 0 := rfl; have f5 : (3 : Int32).toInt = 3 := rfl; omega)⟩
                  · refine oq_if (fun c10 => ?_) (fun c10 => ?_)
                    · exact h_X12_pour_b118 BIG _ _ _ _ _ _ _ js6 (by have f0 := i_rg a1; have f1 := (hs2.2.2.2 c1).1; have f2 := (hs2.2.2.2 c1).2; have f3 : (0 : Int32).toInt = 0 := rfl; have f4 : (3 : Int32).toInt = 3 := rfl; omega) (by have f0 := i_rg a2; have f1 := i_nlt c3; have f2 := i_nlt c9; have f3 := i_sub (s6.1 4 a1.toNatClampNeg) (a2); have f4 := i_le c10; have f5 := i_sub (s6.1 4 a3.toNatClampNeg) (a4); have f6 : (0 : Int32).toInt = 0 := rfl; have f7 := j_rd js6 4 a1.toNatClampNeg (-1) 60 rfl; have f8 := i_rg a5; have f9 := j_rd js6 4 a3.toNatClampNeg (-1) 60 rfl; have f10 := i_rg a4; have f11 := i_nlt c4; have f12 := i_le c5; have f13 := i_ne c6; have f14 := i_ne c7; have f15 : ((-1) : Int32).toInt = (-1) := rfl; omega) (by have f0 := i_rg a3; have f1 := (hs6.2.2.2 c2).1; have f2 := (hs6.2.2.2 c2).2; have f3 : (0 : Int32).toInt = 0 := rfl; have f4 : (3 : Int32).toInt = 3 := rfl; omega) (by have f0 := i_rg a4; have f1 := i_nlt c4; have f2 := i_le c10; have f3 := i_sub (s6.1 4 a3.toNatClampNeg) (a4); have f4 : (0 : Int32).toInt = 0 := rfl; have f5 := i_rg a5; have f6 := j_rd js6 4 a3.toNatClampNeg (-1) 60 rfl; have f7 := i_le c5; have f8 := i_ne c7; have f9 := i_nlt c9; have f10 := i_sub (s6.1 4 a1.toNatClampNeg) (a2); have f11 : ((-1) : Int32).toInt = (-1) := rfl; have f12 := j_rd js6 4 a1.toNatClampNeg (-1) 60 rfl; have f13 := i_rg a2; have f14 := i_nlt c3; have f15 := i_ne c6; omega) (by have f0 := i_rg a5; have f1 := i_le c5; have f2 := i_nlt c9; have f3 := i_sub (s6.1 4 a1.toNatClampNeg) (a2); have f4 := i_le c10; have f5 := i_sub (s6.1 4 a3.toNatClampNeg) (a4); have f6 : (0 : Int32).toInt = 0 := rfl; have f7 := j_rd js6 4 a1.toNatClampNeg (-1) 60 rfl; have f8 := i_rg a2; have f9 := j_rd js6 4 a3.toNatClampNeg (-1) 60 rfl; have f10 := i_rg a4; have f11 := i_nlt c3; have f12 := i_nlt c4; have f13 := i_ne c6; have f14 := i_ne c7; have f15 : ((-1) : Int32).toInt = (-1) := rfl; omega) (by have f0 : (0 : Int32).toInt = 0 := rfl; omega) (by have g0 := i_rg a2; have g1 := i_rg a4; have g2 := i_rg a5; have g3 := i_nlt c3; have g4 := i_nlt c4; have g5 := i_le c5; have g6 := i_nlt c9; have g7 := i_sub (s6.1 4 a1.toNatClampNeg) (a2); have g8 := i_le c10; have g9 := i_sub (s6.1 4 a3.toNatClampNeg) (a4); have g10 : (0 : Int32).toInt = 0 := rfl; have g11 := j_rd js6 4 a1.toNatClampNeg (-1) 60 rfl; have g12 : (s6.1 4 a1.toNatClampNeg).toInt = (s2.1 4 a1.toNatClampNeg).toInt := j_fr hs6.1 4 a1.toNatClampNeg 4 rfl rfl; have g13 := j_rd js6 4 a3.toNatClampNeg (-1) 60 rfl; have g14 : (s6.1 4 a3.toNatClampNeg).toInt = (s2.1 4 a3.toNatClampNeg).toInt := j_fr hs6.1 4 a3.toNatClampNeg 4 rfl rfl; have g15 := j_rd js2 4 a1.toNatClampNeg (-1) 60 rfl; have g16 : (s2.1 4 a1.toNatClampNeg).toInt = (s.1 4 a1.toNatClampNeg).toInt := j_fr hs2.1 4 a1.toNatClampNeg 4 rfl rfl; have g17 := j_rd js2 4 a3.toNatClampNeg (-1) 60 rfl; have g18 : (s2.1 4 a3.toNatClampNeg).toInt = (s.1 4 a3.toNatClampNeg).toInt := j_fr hs2.1 4 a3.toNatClampNeg 4 rfl rfl; have g19 := j_rd hJ 4 a1.toNatClampNeg (-1) 60 rfl; have g20 := j_rd hJ 4 a3.toNatClampNeg (-1) 60 rfl; have g21 := i_ne c6; have g22 := i_ne c7; have g23 : ((-1) : Int32).toInt = (-1) := rfl; omega) (by have g0 := i_rg a1; have g1 := i_rg a2; have g2 := i_rg a3; have g3 := i_rg a4; have g4 := i_rg a5; have g5 : (0 : Int32).toInt = 0 := rfl; have g6 := (hs2.2.2.2 c1).1; have g7 := (hs2.2.2.2 c1).2; have g8 := (hs6.2.2.2 c2).1; have g9 := (hs6.2.2.2 c2).2; have g10 := i_nlt c3; have g11 := i_nlt c4; have g12 := i_le c5; have g13 := i_nlt c9; have g14 := i_sub (s6.1 4 a1.toNatClampNeg) (a2); have g15 := i_le c10; have g16 := i_sub (s6.1 4 a3.toNatClampNeg) (a4); have g17 : (3 : Int32).toInt = 3 := rfl; have g18 := j_rd js6 4 a1.toNatClampNeg (-1) 60 rfl; have g19 : (s6.1 4 a1.toNatClampNeg).toInt = (s2.1 4 a1.toNatClampNeg).toInt := j_fr hs6.1 4 a1.toNatClampNeg 4 rfl rfl; have g20 := j_rd js6 4 a3.toNatClampNeg (-1) 60 rfl; have g21 : (s6.1 4 a3.toNatClampNeg).toInt = (s2.1 4 a3.toNatClampNeg).toInt := j_fr hs6.1 4 a3.toNatClampNeg 4 rfl rfl; have g22 := j_rd js2 4 a1.toNatClampNeg (-1) 60 rfl; have g23 : (s2.1 4 a1.toNatClampNeg).toInt = (s.1 4 a1.toNatClampNeg).toInt := j_fr hs2.1 4 a1.toNatClampNeg 4 rfl rfl; have g24 := j_rd js2 4 a3.toNatClampNeg (-1) 60 rfl; have g25 : (s2.1 4 a3.toNatClampNeg).toInt = (s.1 4 a3.toNatClampNeg).toInt := j_fr hs2.1 4 a3.toNatClampNeg 4 rfl rfl; have g26 := j_rd hJ 4 a1.toNatClampNeg (-1) 60 rfl; have g27 := j_rd hJ 4 a3.toNatClampNeg (-1) 60 rfl; have g28 := i_ne c6; have g29 := i_ne c7; have g30 : ((-1) : Int32).toInt = (-1) := rfl; have g31 : BIG = 4294967296 := rfl; omega)
                    · refine oq_b (h_X12_is _ js6.1 (by have f0 : (3 : Int32).toInt = 3 := rfl; omega)) (fun r26 s27 hs27 => ?_)
                      have js27 : JM 4194336 s s27 := j_call js6 hs27.1 rfl
                      refine oq_c (b01_of (by have f0 := hs27.2.1; have f1 := i_rg r26; omega)) ?_
                      exact ⟨js27, (by have f0 := hs27.2.1; have f1 := i_rg r26; omega), fun _ => trivial, fun w9 => False.elim (by have f0 := hs27.2.1; have f1 := i_rg r26; have f2 := i_ne w9; have f3 := (hs27.2.2.2 w9); have f4 : (0 : Int32).toInt = 0 := rfl; have f5 : (3 : Int32).toInt = 3 := rfl; omega)⟩
                · refine oq_b (h_X12_is _ js6.1 (by have f0 : (8 : Int32).toInt = 8 := rfl; omega)) (fun r28 s29 hs29 => ?_)
                  have js29 : JM 4194336 s s29 := j_call js6 hs29.1 rfl
                  refine oq_c (b01_of (by have f0 := hs29.2.1; have f1 := i_rg r28; omega)) ?_
                  exact ⟨js29, (by have f0 := hs29.2.1; have f1 := i_rg r28; omega), fun _ => trivial, fun w9 => False.elim (by have f0 := hs29.2.1; have f1 := i_rg r28; have f2 := i_ne w9; have f3 := (hs29.2.2.2 w9); have f4 : (0 : Int32).toInt = 0 := rfl; have f5 : (8 : Int32).toInt = 8 := rfl; omega)⟩
          · refine oq_b (h_X12_is _ js6.1 (by have f0 : (1 : Int32).toInt = 1 := rfl; omega)) (fun r30 s31 hs31 => ?_)
            have js31 : JM 4194336 s s31 := j_call js6 hs31.1 rfl
            refine oq_c (b01_of (by have f0 := hs31.2.1; have f1 := i_rg r30; omega)) ?_
            exact ⟨js31, (by have f0 := hs31.2.1; have f1 := i_rg r30; omega), fun _ => trivial, fun w9 => False.elim (by have f0 := hs31.2.1; have f1 := i_rg r30; have f2 := i_ne w9; have f3 := (hs31.2.2.2 w9); have f4 : (0 : Int32).toInt = 0 := rfl; have f5 : (1 : Int32).toInt = 1 := rfl; omega)⟩
theorem h_X12_four_b3 {s0 : Sg} (n : Nat) : ∀ (v1 : Int32) (v2 : Int32) (s : Sg), JM 1073741888 s0 s → (-2147483648) ≤ v2.toInt ∧ v2.toInt ≤ 24 → (8 * (s.1 0 10).toInt + v2.toInt = 8 * (s0.1 0 10).toInt + 24 ∧ (s0.1 0 10).toInt ≤ 896 ∧ (v2.toInt = 24 ∨ v2.toInt = 16 ∨ v2.toInt = 8 ∨ v2.toInt = 0 ∨ v2.toInt = -8)) → v2.toInt - (-2147483648) < (n : Int) → OQ (f_X12_four_b3 n v1 v2 s) (fun _ s9 => JM 1073741888 s0 s9 ∧ ((s9.1 0 10).toInt = (s0.1 0 10).toInt + 4)) := by
  induction n with
  | zero => intro v1 v2 s hJ p_v2 x_1 hn; exact False.elim (by have g0 := hn; have g1 := p_v2; have g2 := i_rg v1; have g3 := i_rg v2; have g4 := x_1; omega)
  | succ n ih =>
    intro v1 v2 s hJ p_v2 x_1 hn
    unfold f_X12_four_b3
    refine oq_if (fun c1 => ?_) (fun c1 => ?_)
    · exact ⟨hJ, (by have g0 := j_rd hJ 0 10 0 900 rfl; have g1 := x_1; have g2 := i_lt c1; have g3 := p_v2; have g4 := i_rg v2; have g5 : (0 : Int32).toInt = 0 := rfl; omega)⟩
    · refine oq_c (inr_of (by have f0 := j_rd hJ 0 10 0 900 rfl; have f1 := x_1; have f2 := i_nlt c1; have f3 := p_v2; have f4 := i_rg v2; have f5 : (0 : Int32).toInt = 0 := rfl; omega)) ?_
      refine oq_n (fun s2 es2 => ?_)
      have js2 : JM 1073741888 s0 s2 := by rw [es2]; exact (j_wf hJ rfl 6 rfl rfl)
      exact ih _ _ _ (j_wr 0 900 js2 rfl 30 rfl rfl (by have f0 := i_add (s2.1 0 10) ((1 : Int32)); have f1 := j_rd js2 0 10 0 900 rfl; have f2 : (s2.1 0 10).toInt = (s.1 0 10).toInt := (by rw [es2]; exact u_nc rfl); have f3 : (1 : Int32).toInt = 1 := rfl; have f4 := j_rd hJ 0 10 0 900 rfl; have f5 := x_1; have f6 := i_nlt c1; have f7 := p_v2; have f8 := i_rg v2; have f9 : (0 : Int32).toInt = 0 := rfl; omega)) (by have f0 := i_add (v2) (((-8) : Int32)); have f1 := p_v2; have f2 := i_rg v2; have f3 : ((-8) : Int32).toInt = (-8) := rfl; have f4 := x_1; have f5 := i_nlt c1; have f6 := j_rd hJ 0 10 0 900 rfl; have f7 : (0 : Int32).toInt = 0 := rfl; omega) (by have g0 := i_add (v2) (((-8) : Int32)); have g1 := p_v2; have g2 := i_rg v2; have g3 : ((-8) : Int32).toInt = (-8) := rfl; have g4 := j_rd ((j_wr 0 900 js2 rfl 30 rfl rfl (by have f0 := i_add (s2.1 0 10) ((1 : Int32)); have f1 := j_rd js2 0 10 0 900 rfl; have f2 : (s2.1 0 10).toInt = (s.1 0 10).toInt := (by rw [es2]; exact u_nc rfl); have f3 : (1 : Int32).toInt = 1 := rfl; have f4 := j_rd hJ 0 10 0 900 rfl; have f5 := x_1; have f6 := i_nlt c1; have f7 := p_v2; have f8 := i_rg v2; have f9 : (0 : Int32).toInt = 0 := rfl; omega)) : JM 1073741888 s0 (pI s2 0 10 ((s2.1 0 10) + 1))) 0 10 0 900 rfl; have g5 : ((pI s2 0 10 ((s2.1 0 10) + 1)).1 0 10).toInt = ((s2.1 0 10) + 1).toInt := u_eq; have g6 := i_add (s2.1 0 10) ((1 : Int32)); have g7 := j_rd js2 0 10 0 900 rfl; have g8 : (s2.1 0 10).toInt = (s.1 0 10).toInt := (by rw [es2]; exact u_nc rfl); have g9 : (1 : Int32).toInt = 1 := rfl; have g10 := j_rd hJ 0 10 0 900 rfl; have g11 := x_1; have g12 := i_nlt c1; have g13 : (0 : Int32).toInt = 0 := rfl; omega) (by have g0 := i_add (v2) (((-8) : Int32)); have g1 := i_rg v1; have g2 := p_v2; have g3 := i_rg v2; have g4 : ((-8) : Int32).toInt = (-8) := rfl; have g5 := x_1; have g6 := i_nlt c1; have g7 := j_rd hJ 0 10 0 900 rfl; have g8 : (0 : Int32).toInt = 0 := rfl; have g9 := hn; omega)
theorem h_X12_four (a1 : Int32) {s : Sg} (hR : Rg rM s) (x_1 : ((s.1 0 10).toInt ≤ 896)) : OQ (f_X12_four a1 s) (fun _ s9 => JM 1073741888 s s9 ∧ ((s9.1 0 10).toInt = (s.1 0 10).toInt + 4)) := by
  have hJ : JM 1073741888 s s := j_refl hR
  unfold f_X12_four
  exact h_X12_four_b3 BIG _ _ _ hJ (by have f0 : (24 : Int32).toInt = 24 := rfl; omega) (by have g0 : (24 : Int32).toInt = 24 := rfl; have g1 := j_rd hJ 0 10 0 900 rfl; have g2 := x_1; omega) (by have g0 := i_rg a1; have g1 : (24 : Int32).toInt = 24 := rfl; have g2 : BIG = 4294967296 := rfl; omega)
theorem h_X12_feed (a1 : Int32) (a2 : Int32) (a3 : Int32) (a4 : Int32) (a5 : Int32) {s : Sg} (hR : Rg rM s) : OQ (f_X12_feed a1 a2 a3 a4 a5 s) (fun r9 s9 => JM 1073741888 s s9 ∧ ((-1) ≤ r9.toInt ∧ r9.toInt ≤ 900) ∧ (r9 = 0 → True) ∧ (¬ r9 = 0 → True)) := by
  have hJ : JM 1073741888 s s := j_refl hR
  unfold f_X12_feed
  refine oq_if (fun c1 => ?_) (fun c1 => ?_)
  · refine oq_b (h_X12_four _ hJ.1 (by have g0 := j_rd hJ 0 10 0 900 rfl; have g1 := i_le c1; have g2 := i_add (s.1 0 10) ((20 : Int32)); have g3 : (20 : Int32).toInt = 20 := rfl; have g4 : (900 : Int32).toInt = 900 := rfl; omega)) (fun u2 s2 hs2 => ?_)
    have js2 : JM 1073741888 s s2 := j_call hJ hs2.1 rfl
    refine oq_b (h_X12_four _ js2.1 (by have g0 := hs2.2; have g1 := j_rd js2 0 10 0 900 rfl; have g2 := j_rd hJ 0 10 0 900 rfl; have g3 := i_le c1; have g4 := i_add (s.1 0 10) ((20 : Int32)); have g5 : (20 : Int32).toInt = 20 := rfl; have g6 : (900 : Int32).toInt = 900 := rfl; omega)) (fun u3 s4 hs4 => ?_)
    have js4 : JM 1073741888 s s4 := j_call js2 hs4.1 rfl
    refine oq_b (h_X12_four _ js4.1 (by have g0 := hs4.2; have g1 := j_rd js4 0 10 0 900 rfl; have g2 := hs2.2; have g3 := j_rd js2 0 10 0 900 rfl; have g4 := j_rd hJ 0 10 0 900 rfl; have g5 := i_le c1; have g6 := i_add (s.1 0 10) ((20 : Int32)); have g7 : (20 : Int32).toInt = 20 := rfl; have g8 : (900 : Int32).toInt = 900 := rfl; omega)) (fun u4 s6 hs6 => ?_)
    have js6 : JM 1073741888 s s6 := j_call js4 hs6.1 rfl
    refine oq_b (h_X12_four _ js6.1 (by have g0 := hs6.2; have g1 := j_rd js6 0 10 0 900 rfl; have g2 := hs4.2; have g3 := j_rd js4 0 10 0 900 rfl; have g4 := hs2.2; have g5 := j_rd js2 0 10 0 900 rfl; have g6 := j_rd hJ 0 10 0 900 rfl; have g7 := i_le c1; have g8 := i_add (s.1 0 10) ((20 : Int32)); have g9 : (20 : Int32).toInt = 20 := rfl; have g10 : (900 : Int32).toInt = 900 := rfl; omega)) (fun u5 s8 hs8 => ?_)
    have js8 : JM 1073741888 s s8 := j_call js6 hs8.1 rfl
    refine oq_b (h_X12_four _ js8.1 (by have g0 := hs8.2; have g1 := j_rd js8 0 10 0 900 rfl; have g2 := hs6.2; have g3 := j_rd js6 0 10 0 900 rfl; have g4 := hs4.2; have g5 := j_rd js4 0 10 0 900 rfl; have g6 := hs2.2; have g7 := j_rd js2 0 10 0 900 rfl; have g8 := j_rd hJ 0 10 0 900 rfl; have g9 := i_le c1; have g10 := i_add (s.1 0 10) ((20 : Int32)); have g11 : (20 : Int32).toInt = 20 := rfl; have g12 : (900 : Int32).toInt = 900 := rfl; omega)) (fun u6 s10 hs10 => ?_)
    have js10 : JM 1073741888 s s10 := j_call js8 hs10.1 rfl
    exact ⟨js10, (by have f0 := hs10.2; have f1 := j_rd js10 0 10 0 900 rfl; have f2 := hs8.2; have f3 := j_rd js8 0 10 0 900 rfl; have f4 := hs6.2; have f5 := j_rd js6 0 10 0 900 rfl; have f6 := hs4.2; have f7 := j_rd js4 0 10 0 900 rfl; have f8 := hs2.2; have f9 := j_rd js2 0 10 0 900 rfl; have f10 := j_rd hJ 0 10 0 900 rfl; have f11 := i_le c1; have f12 := i_add (s.1 0 10) ((20 : Int32)); have f13 : (20 : Int32).toInt = 20 := rfl; have f14 : (900 : Int32).toInt = 900 := rfl; omega), fun _ => trivial, fun _ => trivial⟩
  · exact ⟨hJ, (by have f0 : ((-1) : Int32).toInt = (-1) := rfl; omega), fun w9 => absurd w9 (by decide), fun _ => trivial⟩
theorem h_X12_byteAt (a1 : Int32) {s : Sg} (hR : Rg rM s) (p_a1 : 0 ≤ a1.toInt ∧ a1.toInt ≤ 2000) : OQ (f_X12_byteAt a1 s) (fun r9 s9 => JM 0 s s9 ∧ (((-1) ≤ r9.toInt ∧ r9.toInt ≤ 255) ∧ (r9.toInt = -1 ∨ a1.toInt < (s.1 0 11).toInt)) ∧ (r9 = 0 → (a1).toInt ≤ 899 ∧ 1 ≤ (s.1 0 11).toInt) ∧ (¬ r9 = 0 → True)) := by
  have hJ : JM 0 s s := j_refl hR
  unfold f_X12_byteAt
  refine oq_if (fun c1 => ?_) (fun c1 => ?_)
  · exact ⟨hJ, ⟨(by have f0 : ((-1) : Int32).toInt = (-1) := rfl; omega), (by have g0 : ((-1) : Int32).toInt = (-1) := rfl; have g1 := p_a1; have g2 := i_rg a1; have g3 := j_rd hJ 0 11 0 900 rfl; have g4 := i_le c1; omega)⟩, fun w9 => absurd w9 (by decide), fun _ => trivial⟩
  · refine oq_c (inr_of (by have f0 := p_a1; have f1 := i_rg a1; have f2 := i_nle c1; have f3 := j_rd hJ 0 11 0 900 rfl; omega)) ?_
    exact ⟨hJ, ⟨(by have f0 := i_and (s.1 7 a1.toNatClampNeg) ((255 : Int32)) (by decide); have f1 := i_rg (s.1 7 a1.toNatClampNeg); have f2 : (255 : Int32).toInt = 255 := rfl; omega), (by have g0 := i_and (s.1 7 a1.toNatClampNeg) ((255 : Int32)) (by decide); have g1 := i_rg (s.1 7 a1.toNatClampNeg); have g2 : (255 : Int32).toInt = 255 := rfl; have g3 := p_a1; have g4 := i_rg a1; have g5 := j_rd hJ 0 11 0 900 rfl; have g6 := i_nle c1; omega)⟩, fun w9 => ⟨(by have f0 := p_a1; have f1 := i_rg a1; have f2 : (899 : Int32).toInt = 899 := rfl; have f3 := i_nle c1; have f4 := j_rd hJ 0 11 0 900 rfl; omega), (by have f0 : (1 : Int32).toInt = 1 := rfl; have f1 := j_rd hJ 0 11 0 900 rfl; have f2 := i_nle c1; have f3 := p_a1; have f4 := i_rg a1; omega)⟩, fun _ => trivial⟩
theorem h_X12_isSmall (a0 : Int32) {s : Sg} (hR : Rg rM s) (p_a0 : (-1) ≤ a0.toInt ∧ a0.toInt ≤ 255) : OQ (f_X12_isSmall a0 s) (fun r9 s9 => JM 0 s s9 ∧ (0 ≤ r9.toInt ∧ r9.toInt ≤ 1) ∧ (r9 = 0 → True) ∧ (¬ r9 = 0 → 97 ≤ (a0).toInt ∧ (a0).toInt ≤ 122)) := by
  have hJ : JM 0 s s := j_refl hR
  unfold f_X12_isSmall
  refine oq_if (fun c1 => ?_) (fun c1 => ?_)
  · exact ⟨hJ, (by have f0 : (0 : Int32).toInt = 0 := rfl; omega), fun _ => trivial, fun w9 => absurd rfl w9⟩
  · refine oq_if (fun c2 => ?_) (fun c2 => ?_)
    · exact ⟨hJ, (by have f0 : (0 : Int32).toInt = 0 := rfl; omega), fun _ => trivial, fun w9 => absurd rfl w9⟩
    · exact ⟨hJ, (by have f0 : (1 : Int32).toInt = 1 := rfl; omega), fun w9 => absurd w9 (by decide), fun w9 => ⟨(by have f0 : (97 : Int32).toInt = 97 := rfl; have f1 := p_a0; have f2 := i_rg a0; have f3 := i_nlt c1; have f4 := i_nlt c2; have f5 : (122 : Int32).toInt = 122 := rfl; omega), (by have f0 := p_a0; have f1 := i_rg a0; have f2 : (122 : Int32).toInt = 122 := rfl; have f3 := i_nlt c1; have f4 := i_nlt c2; have f5 : (97 : Int32).toInt = 97 := rfl; omega)⟩⟩
theorem h_X12_isDigit (a0 : Int32) {s : Sg} (hR : Rg rM s) (p_a0 : (-1) ≤ a0.toInt ∧ a0.toInt ≤ 255) : OQ (f_X12_isDigit a0 s) (fun r9 s9 => JM 0 s s9 ∧ (0 ≤ r9.toInt ∧ r9.toInt ≤ 1) ∧ (r9 = 0 → True) ∧ (¬ r9 = 0 → 48 ≤ (a0).toInt ∧ (a0).toInt ≤ 57)) := by
  have hJ : JM 0 s s := j_refl hR
  unfold f_X12_isDigit
  refine oq_if (fun c1 => ?_) (fun c1 => ?_)
  · exact ⟨hJ, (by have f0 : (0 : Int32).toInt = 0 := rfl; omega), fun _ => trivial, fun w9 => absurd rfl w9⟩
  · refine oq_if (fun c2 => ?_) (fun c2 => ?_)
    · exact ⟨hJ, (by have f0 : (0 : Int32).toInt = 0 := rfl; omega), fun _ => trivial, fun w9 => absurd rfl w9⟩
    · exact ⟨hJ, (by have f0 : (1 : Int32).toInt = 1 := rfl; omega), fun w9 => absurd w9 (by decide), fun w9 => ⟨(by have f0 : (48 : Int32).toInt = 48 := rfl; have f1 := p_a0; have f2 := i_rg a0; have f3 := i_nlt c1; have f4 := i_nlt c2; have f5 : (57 : Int32).toInt = 57 := rfl; omega), (by have f0 := p_a0; have f1 := i_rg a0; have f2 : (57 : Int32).toInt = 57 := rfl; have f3 := i_nlt c1; have f4 := i_nlt c2; have f5 : (48 : Int32).toInt = 48 := rfl; omega)⟩⟩
theorem h_X12_ahead_b128 {s0 : Sg} (n : Nat) : ∀  (s : Sg), JM 64424509440 s0 s → 900 - (s.1 0 14).toInt < (n : Int) → OQ (f_X12_ahead_b128 n  s) (fun _ s9 => JM 64424509440 s0 s9 ∧ True) := by
  induction n with
  | zero => intro  s hJ hn; exact False.elim (by have g0 := hn; have g1 := j_rd hJ 0 14 0 900 rfl; omega)
  | succ n ih =>
    intro  s hJ hn
    unfold f_X12_ahead_b128
    refine oq_b (h_X12_byteAt _ hJ.1 (by have f0 := j_rd hJ 0 14 0 900 rfl; omega)) (fun r16 s17 hs17 => ?_)
    have js17 : JM 64424509440 s0 s17 := j_call hJ hs17.1 rfl
    refine oq_b (h_X12_isDigit _ js17.1 (by have f0 := hs17.2.1; have f1 := i_rg r16; have f2 := hs17.2.1.2; have f3 := j_rd hJ 0 14 0 900 rfl; have f4 := j_rd hJ 0 11 0 900 rfl; omega)) (fun r18 s19 hs19 => ?_)
    have js19 : JM 64424509440 s0 s19 := j_call js17 hs19.1 rfl
    refine oq_if (fun c1 => ?_) (fun c1 => ?_)
    · refine oq_if (fun c2 => ?_) (fun c2 => ?_)
      · exact ⟨(j_wf js19 rfl 32 rfl rfl), trivial⟩
      · exact ⟨(j_wf js19 rfl 32 rfl rfl), trivial⟩
    · refine oq_b (h_X12_byteAt _ js19.1 (by have f0 := j_rd js19 0 14 0 900 rfl; omega)) (fun r20 s21 hs21 => ?_)
      have js21 : JM 64424509440 s0 s21 := j_call js19 hs21.1 rfl
      refine oq_n (fun s22 es22 => ?_)
      have js22 : JM 64424509440 s0 s22 := by rw [es22]; exact (j_wf js21 rfl 35 rfl rfl)
      exact ih  _ (j_wr 0 900 js22 rfl 34 rfl rfl (by have f0 := i_add (s22.1 0 14) ((1 : Int32)); have f1 := j_rd js22 0 14 0 900 rfl; have f2 : (s22.1 0 14).toInt = (s21.1 0 14).toInt := (by rw [es22]; exact u_ne rfl); have f3 : (1 : Int32).toInt = 1 := rfl; have f4 := j_rd js21 0 14 0 900 rfl; have f5 : (s21.1 0 14).toInt = (s19.1 0 14).toInt := j_fr hs21.1 0 14 34 rfl rfl; have f6 := j_rd js19 0 14 0 900 rfl; have f7 : (s19.1 0 14).toInt = (s17.1 0 14).toInt := j_fr hs19.1 0 14 34 rfl rfl; have f8 := j_rd js17 0 14 0 900 rfl; have f9 : (s17.1 0 14).toInt = (s.1 0 14).toInt := j_fr hs17.1 0 14 34 rfl rfl; have f10 := j_rd hJ 0 14 0 900 rfl; omega)) (by have g0 := j_rd ((j_wr 0 900 js22 rfl 34 rfl rfl (by have f0 := i_add (s22.1 0 14) ((1 : Int32)); have f1 := j_rd js22 0 14 0 900 rfl; have f2 : (s22.1 0 14).toInt = (s21.1 0 14).toInt := (by rw [es22]; exact u_ne rfl); have f3 : (1 : Int32).toInt = 1 := rfl; have f4 := j_rd js21 0 14 0 900 rfl; have f5 : (s21.1 0 14).toInt = (s19.1 0 14).toInt := j_fr hs21.1 0 14 34 rfl rfl; have f6 := j_rd js19 0 14 0 900 rfl; have f7 : (s19.1 0 14).toInt = (s17.1 0 14).toInt := j_fr hs19.1 0 14 34 rfl rfl; have f8 := j_rd js17 0 14 0 900 rfl; have f9 : (s17.1 0 14).toInt = (s.1 0 14).toInt := j_fr hs17.1 0 14 34 rfl rfl; have f10 := j_rd hJ 0 14 0 900 rfl; omega)) : JM 64424509440 s0 (pI s22 0 14 ((s22.1 0 14) + 1))) 0 14 0 900 rfl; have g1 : ((pI s22 0 14 ((s22.1 0 14) + 1)).1 0 14).toInt = ((s22.1 0 14) + 1).toInt := u_eq; have g2 := i_add (s22.1 0 14) ((1 : Int32)); have g3 := j_rd js22 0 14 0 900 rfl; have g4 : (s22.1 0 14).toInt = (s21.1 0 14).toInt := (by rw [es22]; exact u_ne rfl); have g5 : (1 : Int32).toInt = 1 := rfl; have g6 := j_rd js21 0 14 0 900 rfl; have g7 : (s21.1 0 14).toInt = (s19.1 0 14).toInt := j_fr hs21.1 0 14 34 rfl rfl; have g8 := j_rd js19 0 14 0 900 rfl; have g9 : (s19.1 0 14).toInt = (s17.1 0 14).toInt := j_fr hs19.1 0 14 34 rfl rfl; have g10 := j_rd js17 0 14 0 900 rfl; have g11 : (s17.1 0 14).toInt = (s.1 0 14).toInt := j_fr hs17.1 0 14 34 rfl rfl; have g12 := j_rd hJ 0 14 0 900 rfl; have g13 := hn; omega)
theorem h_X12_ahead_b81 {s0 : Sg} (n : Nat) : ∀  (s : Sg), JM 64424509440 s0 s → 900 - (s.1 0 14).toInt < (n : Int) → OQ (f_X12_ahead_b81 n  s) (fun _ s9 => JM 64424509440 s0 s9 ∧ True) := by
  induction n with
  | zero => intro  s hJ hn; exact False.elim (by have g0 := hn; have g1 := j_rd hJ 0 14 0 900 rfl; omega)
  | succ n ih =>
    intro  s hJ hn
    unfold f_X12_ahead_b81
    refine oq_b (h_X12_byteAt _ hJ.1 (by have f0 := j_rd hJ 0 14 0 900 rfl; omega)) (fun r23 s24 hs24 => ?_)
    have js24 : JM 64424509440 s0 s24 := j_call hJ hs24.1 rfl
    refine oq_b (h_X12_isSmall _ js24.1 (by have f0 := hs24.2.1; have f1 := i_rg r23; have f2 := hs24.2.1.2; have f3 := j_rd hJ 0 14 0 900 rfl; have f4 := j_rd hJ 0 11 0 900 rfl; omega)) (fun r25 s26 hs26 => ?_)
    have js26 : JM 64424509440 s0 s26 := j_call js24 hs26.1 rfl
    refine oq_if (fun c1 => ?_) (fun c1 => ?_)
    · exact ⟨(j_wf js26 rfl 32 rfl rfl), trivial⟩
    · exact ih  _ (j_wr 0 900 js26 rfl 34 rfl rfl (by have f0 := i_add (s26.1 0 14) ((1 : Int32)); have f1 := j_rd js26 0 14 0 900 rfl; have f2 : (s26.1 0 14).toInt = (s24.1 0 14).toInt := j_fr hs26.1 0 14 34 rfl rfl; have f3 : (1 : Int32).toInt = 1 := rfl; have f4 := j_rd js24 0 14 0 900 rfl; have f5 : (s24.1 0 14).toInt = (s.1 0 14).toInt := j_fr hs24.1 0 14 34 rfl rfl; have f6 := j_rd hJ 0 14 0 900 rfl; omega)) (by have g0 := j_rd ((j_wr 0 900 js26 rfl 34 rfl rfl (by have f0 := i_add (s26.1 0 14) ((1 : Int32)); have f1 := j_rd js26 0 14 0 900 rfl; have f2 : (s26.1 0 14).toInt = (s24.1 0 14).toInt := j_fr hs26.1 0 14 34 rfl rfl; have f3 : (1 : Int32).toInt = 1 := rfl; have f4 := j_rd js24 0 14 0 900 rfl; have f5 : (s24.1 0 14).toInt = (s.1 0 14).toInt := j_fr hs24.1 0 14 34 rfl rfl; have f6 := j_rd hJ 0 14 0 900 rfl; omega)) : JM 64424509440 s0 (pI s26 0 14 ((s26.1 0 14) + 1))) 0 14 0 900 rfl; have g1 : ((pI s26 0 14 ((s26.1 0 14) + 1)).1 0 14).toInt = ((s26.1 0 14) + 1).toInt := u_eq; have g2 := i_add (s26.1 0 14) ((1 : Int32)); have g3 := j_rd js26 0 14 0 900 rfl; have g4 : (s26.1 0 14).toInt = (s24.1 0 14).toInt := j_fr hs26.1 0 14 34 rfl rfl; have g5 : (1 : Int32).toInt = 1 := rfl; have g6 := j_rd js24 0 14 0 900 rfl; have g7 : (s24.1 0 14).toInt = (s.1 0 14).toInt := j_fr hs24.1 0 14 34 rfl rfl; have g8 := j_rd hJ 0 14 0 900 rfl; have g9 := hn; omega)
theorem h_X12_ahead_b0 {s0 : Sg} (n : Nat) : ∀  (s : Sg), JM 64424509440 s0 s → 900 - (s.1 0 14).toInt < (n : Int) → OQ (f_X12_ahead_b0 n  s) (fun _ s9 => JM 64424509440 s0 s9 ∧ True) := by
  induction n with
  | zero => intro  s hJ hn; exact False.elim (by have g0 := hn; have g1 := j_rd hJ 0 14 0 900 rfl; omega)
  | succ n ih =>
    intro  s hJ hn
    unfold f_X12_ahead_b0
    refine oq_b (h_X12_byteAt _ hJ.1 (by have f0 := j_rd hJ 0 14 0 900 rfl; omega)) (fun r1 s2 hs2 => ?_)
    have js2 : JM 64424509440 s0 s2 := j_call hJ hs2.1 rfl
    refine oq_if (fun c1 => ?_) (fun c1 => ?_)
    · exact ih  _ (j_wr 0 900 js2 rfl 34 rfl rfl (by have f0 := i_add (s2.1 0 14) ((1 : Int32)); have f1 := j_rd js2 0 14 0 900 rfl; have f2 : (s2.1 0 14).toInt = (s.1 0 14).toInt := j_fr hs2.1 0 14 34 rfl rfl; have f3 : (1 : Int32).toInt = 1 := rfl; have f4 := j_rd hJ 0 14 0 900 rfl; omega)) (by have g0 := j_rd ((j_wr 0 900 js2 rfl 34 rfl rfl (by have f0 := i_add (s2.1 0 14) ((1 : Int32)); have f1 := j_rd js2 0 14 0 900 rfl; have f2 : (s2.1 0 14).toInt = (s.1 0 14).toInt := j_fr hs2.1 0 14 34 rfl rfl; have f3 : (1 : Int32).toInt = 1 := rfl; have f4 := j_rd hJ 0 14 0 900 rfl; omega)) : JM 64424509440 s0 (pI s2 0 14 ((s2.1 0 14) + 1))) 0 14 0 900 rfl; have g1 : ((pI s2 0 14 ((s2.1 0 14) + 1)).1 0 14).toInt = ((s2.1 0 14) + 1).toInt := u_eq; have g2 := i_add (s2.1 0 14) ((1 : Int32)); have g3 := j_rd js2 0 14 0 900 rfl; have g4 : (s2.1 0 14).toInt = (s.1 0 14).toInt := j_fr hs2.1 0 14 34 rfl rfl; have g5 : (1 : Int32).toInt = 1 := rfl; have g6 := j_rd hJ 0 14 0 900 rfl; have g7 := hn; omega)
    · refine oq_b (h_X12_byteAt _ js2.1 (by have f0 := j_rd js2 0 14 0 900 rfl; omega)) (fun r3 s4 hs4 => ?_)
      have js4 : JM 64424509440 s0 s4 := j_call js2 hs4.1 rfl
      refine oq_if (fun c2 => ?_) (fun c2 => ?_)
      · exact ih  _ (j_wr 0 900 js4 rfl 34 rfl rfl (by have f0 := i_add (s4.1 0 14) ((1 : Int32)); have f1 := j_rd js4 0 14 0 900 rfl; have f2 : (s4.1 0 14).toInt = (s2.1 0 14).toInt := j_fr hs4.1 0 14 34 rfl rfl; have f3 : (1 : Int32).toInt = 1 := rfl; have f4 := j_rd js2 0 14 0 900 rfl; have f5 : (s2.1 0 14).toInt = (s.1 0 14).toInt := j_fr hs2.1 0 14 34 rfl rfl; have f6 := j_rd hJ 0 14 0 900 rfl; omega)) (by have g0 := j_rd ((j_wr 0 900 js4 rfl 34 rfl rfl (by have f0 := i_add (s4.1 0 14) ((1 : Int32)); have f1 := j_rd js4 0 14 0 900 rfl; have f2 : (s4.1 0 14).toInt = (s2.1 0 14).toInt := j_fr hs4.1 0 14 34 rfl rfl; have f3 : (1 : Int32).toInt = 1 := rfl; have f4 := j_rd js2 0 14 0 900 rfl; have f5 : (s2.1 0 14).toInt = (s.1 0 14).toInt := j_fr hs2.1 0 14 34 rfl rfl; have f6 := j_rd hJ 0 14 0 900 rfl; omega)) : JM 64424509440 s0 (pI s4 0 14 ((s4.1 0 14) + 1))) 0 14 0 900 rfl; have g1 : ((pI s4 0 14 ((s4.1 0 14) + 1)).1 0 14).toInt = ((s4.1 0 14) + 1).toInt := u_eq; have g2 := i_add (s4.1 0 14) ((1 : Int32)); have g3 := j_rd js4 0 14 0 900 rfl; have g4 : (s4.1 0 14).toInt = (s2.1 0 14).toInt := j_fr hs4.1 0 14 34 rfl rfl; have g5 : (1 : Int32).toInt = 1 := rfl; have g6 := j_rd js2 0 14 0 900 rfl; have g7 : (s2.1 0 14).toInt = (s.1 0 14).toInt := j_fr hs2.1 0 14 34 rfl rfl; have g8 := j_rd hJ 0 14 0 900 rfl; have g9 := hn; omega)
      · refine oq_b (h_X12_byteAt _ ((j_wr 0 900 js4 rfl 33 rfl rfl (by have f0 := j_rd js4 0 14 0 900 rfl; omega)) : JM 64424509440 s0 (pI s4 0 13 (s4.1 0 14))).1 (by have f0 := j_rd ((j_wr 0 900 js4 rfl 33 rfl rfl (by have f0 := j_rd js4 0 14 0 900 rfl; omega)) : JM 64424509440 s0 (pI s4 0 13 (s4.1 0 14))) 0 14 0 900 rfl; omega)) (fun r5 s6 hs6 => ?_)
        have js6 : JM 64424509440 s0 s6 := j_call ((j_wr 0 900 js4 rfl 33 rfl rfl (by have f0 := j_rd js4 0 14 0 900 rfl; omega)) : JM 64424509440 s0 (pI s4 0 13 (s4.1 0 14))) hs6.1 rfl
        refine oq_if (fun c3 => ?_) (fun c3 => ?_)
        · exact ⟨(j_wf (j_wf js6 rfl 35 rfl rfl) rfl 32 rfl rfl), trivial⟩
        · refine oq_b (h_X12_isSmall _ ((j_wf js6 rfl 35 rfl rfl) : JM 64424509440 s0 (pI s6 0 15 r5)).1 (by have f0 := hs6.2.1; have f1 := i_rg r5; have f2 := hs6.2.1.2; have f3 := j_rd ((j_wr 0 900 js4 rfl 33 rfl rfl (by have f0 := j_rd js4 0 14 0 900 rfl; omega)) : JM 64424509440 s0 (pI s4 0 13 (s4.1 0 14))) 0 14 0 900 rfl; have f4 := j_rd ((j_wr 0 900 js4 rfl 33 rfl rfl (by have f0 := j_rd js4 0 14 0 900 rfl; omega)) : JM 64424509440 s0 (pI s4 0 13 (s4.1 0 14))) 0 11 0 900 rfl; have f5 := i_ne c3; have f6 : ((-1) : Int32).toInt = (-1) := rfl; omega)) (fun r7 s8 hs8 => ?_)
          have js8 : JM 64424509440 s0 s8 := j_call ((j_wf js6 rfl 35 rfl rfl) : JM 64424509440 s0 (pI s6 0 15 r5)) hs8.1 rfl
          refine oq_if (fun c4 => ?_) (fun c4 => ?_)
          · refine oq_b (h_X12_isDigit _ js8.1 (by have f0 := hs6.2.1; have f1 := i_rg r5; have f2 := hs6.2.1.2; have f3 := j_rd ((j_wr 0 900 js4 rfl 33 rfl rfl (by have f0 := j_rd js4 0 14 0 900 rfl; omega)) : JM 64424509440 s0 (pI s4 0 13 (s4.1 0 14))) 0 14 0 900 rfl; have f4 := j_rd ((j_wr 0 900 js4 rfl 33 rfl rfl (by have f0 := j_rd js4 0 14 0 900 rfl; omega)) : JM 64424509440 s0 (pI s4 0 13 (s4.1 0 14))) 0 11 0 900 rfl; have f5 := i_ne c3; have f6 : ((-1) : Int32).toInt = (-1) := rfl; omega)) (fun r9 s10 hs10 => ?_)
            have js10 : JM 64424509440 s0 s10 := j_call js8 hs10.1 rfl
            refine oq_if (fun c5 => ?_) (fun c5 => ?_)
            · refine oq_if (fun c6 => ?_) (fun c6 => ?_)
              · refine oq_n (fun s11 es11 => ?_)
                have js11 : JM 64424509440 s0 s11 := by rw [es11]; exact (j_wf (j_wr 0 900 js10 rfl 34 rfl rfl (by have f0 := i_add (s10.1 0 14) ((1 : Int32)); have f1 := j_rd js10 0 14 0 900 rfl; have f2 : (s10.1 0 14).toInt = (s8.1 0 14).toInt := j_fr hs10.1 0 14 34 rfl rfl; have f3 : (1 : Int32).toInt = 1 := rfl; have f4 := j_rd js8 0 14 0 900 rfl; have f5 : (s8.1 0 14).toInt = ((pI s6 0 15 r5).1 0 14).toInt := j_fr hs8.1 0 14 34 rfl rfl; have f6 := j_rd ((j_wf js6 rfl 35 rfl rfl) : JM 64424509440 s0 (pI s6 0 15 r5)) 0 14 0 900 rfl; have f7 : ((pI s6 0 15 r5).1 0 14).toInt = (s6.1 0 14).toInt := u_ne rfl; have f8 := j_rd js6 0 14 0 900 rfl; have f9 : (s6.1 0 14).toInt = ((pI s4 0 13 (s4.1 0 14)).1 0 14).toInt := j_fr hs6.1 0 14 34 rfl rfl; have f10 := j_rd ((j_wr 0 900 js4 rfl 33 rfl rfl (by have f0 := j_rd js4 0 14 0 900 rfl; omega)) : JM 64424509440 s0 (pI s4 0 13 (s4.1 0 14))) 0 14 0 900 rfl; have f11 : ((pI s4 0 13 (s4.1 0 14)).1 0 14).toInt = (s4.1 0 14).toInt := u_ne rfl; have f12 := j_rd js4 0 14 0 900 rfl; have f13 : (s4.1 0 14).toInt = (s2.1 0 14).toInt := j_fr hs4.1 0 14 34 rfl rfl; have f14 := j_rd js2 0 14 0 900 rfl; have f15 : (s2.1 0 14).toInt = (s.1 0 14).toInt := j_fr hs2.1 0 14 34 rfl rfl; have f16 := j_rd hJ 0 14 0 900 rfl; omega)) rfl 32 rfl rfl)
                exact ⟨js11, trivial⟩
              · refine oq_if (fun c7 => ?_) (fun c7 => ?_)
                · refine oq_n (fun s12 es12 => ?_)
                  have js12 : JM 64424509440 s0 s12 := by rw [es12]; exact (j_wf (j_wr 0 900 js10 rfl 34 rfl rfl (by have f0 := i_add (s10.1 0 14) ((1 : Int32)); have f1 := j_rd js10 0 14 0 900 rfl; have f2 : (s10.1 0 14).toInt = (s8.1 0 14).toInt := j_fr hs10.1 0 14 34 rfl rfl; have f3 : (1 : Int32).toInt = 1 := rfl; have f4 := j_rd js8 0 14 0 900 rfl; have f5 : (s8.1 0 14).toInt = ((pI s6 0 15 r5).1 0 14).toInt := j_fr hs8.1 0 14 34 rfl rfl; have f6 := j_rd ((j_wf js6 rfl 35 rfl rfl) : JM 64424509440 s0 (pI s6 0 15 r5)) 0 14 0 900 rfl; have f7 : ((pI s6 0 15 r5).1 0 14).toInt = (s6.1 0 14).toInt := u_ne rfl; have f8 := j_rd js6 0 14 0 900 rfl; have f9 : (s6.1 0 14).toInt = ((pI s4 0 13 (s4.1 0 14)).1 0 14).toInt := j_fr hs6.1 0 14 34 rfl rfl; have f10 := j_rd ((j_wr 0 900 js4 rfl 33 rfl rfl (by have f0 := j_rd js4 0 14 0 900 rfl; omega)) : JM 64424509440 s0 (pI s4 0 13 (s4.1 0 14))) 0 14 0 900 rfl; have f11 : ((pI s4 0 13 (s4.1 0 14)).1 0 14).toInt = (s4.1 0 14).toInt := u_ne rfl; have f12 := j_rd js4 0 14 0 900 rfl; have f13 : (s4.1 0 14).toInt = (s2.1 0 14).toInt := j_fr hs4.1 0 14 34 rfl rfl; have f14 := j_rd js2 0 14 0 900 rfl; have f15 : (s2.1 0 14).toInt = (s.1 0 14).toInt := j_fr hs2.1 0 14 34 rfl rfl; have f16 := j_rd hJ 0 14 0 900 rfl; omega)) rfl 32 rfl rfl)
                  exact ⟨js12, trivial⟩
                · refine oq_if (fun c8 => ?_) (fun c8 => ?_)
                  · refine oq_n (fun s13 es13 => ?_)
                    have js13 : JM 64424509440 s0 s13 := by rw [es13]; exact (j_wf (j_wr 0 900 js10 rfl 34 rfl rfl (by have f0 := i_add (s10.1 0 14) ((1 : Int32)); have f1 := j_rd js10 0 14 0 900 rfl; have f2 : (s10.1 0 14).toInt = (s8.1 0 14).toInt := j_fr hs10.1 0 14 34 rfl rfl; have f3 : (1 : Int32).toInt = 1 := rfl; have f4 := j_rd js8 0 14 0 900 rfl; have f5 : (s8.1 0 14).toInt = ((pI s6 0 15 r5).1 0 14).toInt := j_fr hs8.1 0 14 34 rfl rfl; have f6 := j_rd ((j_wf js6 rfl 35 rfl rfl) : JM 64424509440 s0 (pI s6 0 15 r5)) 0 14 0 900 rfl; have f7 : ((pI s6 0 15 r5).1 0 14).toInt = (s6.1 0 14).toInt := u_ne rfl; have f8 := j_rd js6 0 14 0 900 rfl; have f9 : (s6.1 0 14).toInt = ((pI s4 0 13 (s4.1 0 14)).1 0 14).toInt := j_fr hs6.1 0 14 34 rfl rfl; have f10 := j_rd ((j_wr 0 900 js4 rfl 33 rfl rfl (by have f0 := j_rd js4 0 14 0 900 rfl; omega)) : JM 64424509440 s0 (pI s4 0 13 (s4.1 0 14))) 0 14 0 900 rfl; have f11 : ((pI s4 0 13 (s4.1 0 14)).1 0 14).toInt = (s4.1 0 14).toInt := u_ne rfl; have f12 := j_rd js4 0 14 0 900 rfl; have f13 : (s4.1 0 14).toInt = (s2.1 0 14).toInt := j_fr hs4.1 0 14 34 rfl rfl; have f14 := j_rd js2 0 14 0 900 rfl; have f15 : (s2.1 0 14).toInt = (s.1 0 14).toInt := j_fr hs2.1 0 14 34 rfl rfl; have f16 := j_rd hJ 0 14 0 900 rfl; omega)) rfl 32 rfl rfl)
                    exact ⟨js13, trivial⟩
                  · refine oq_if (fun c9 => ?_) (fun c9 => ?_)
                    · refine oq_n (fun s14 es14 => ?_)
                      have js14 : JM 64424509440 s0 s14 := by rw [es14]; exact (j_wf (j_wr 0 900 js10 rfl 34 rfl rfl (by have f0 := i_add (s10.1 0 14) ((1 : Int32)); have f1 := j_rd js10 0 14 0 900 rfl; have f2 : (s10.1 0 14).toInt = (s8.1 0 14).toInt := j_fr hs10.1 0 14 34 rfl rfl; have f3 : (1 : Int32).toInt = 1 := rfl; have f4 := j_rd js8 0 14 0 900 rfl; have f5 : (s8.1 0 14).toInt = ((pI s6 0 15 r5).1 0 14).toInt := j_fr hs8.1 0 14 34 rfl rfl; have f6 := j_rd ((j_wf js6 rfl 35 rfl rfl) : JM 64424509440 s0 (pI s6 0 15 r5)) 0 14 0 900 rfl; have f7 : ((pI s6 0 15 r5).1 0 14).toInt = (s6.1 0 14).toInt := u_ne rfl; have f8 := j_rd js6 0 14 0 900 rfl; have f9 : (s6.1 0 14).toInt = ((pI s4 0 13 (s4.1 0 14)).1 0 14).toInt := j_fr hs6.1 0 14 34 rfl rfl; have f10 := j_rd ((j_wr 0 900 js4 rfl 33 rfl rfl (by have f0 := j_rd js4 0 14 0 900 rfl; omega)) : JM 64424509440 s0 (pI s4 0 13 (s4.1 0 14))) 0 14 0 900 rfl; have f11 : ((pI s4 0 13 (s4.1 0 14)).1 0 14).toInt = (s4.1 0 14).toInt := u_ne rfl; have f12 := j_rd js4 0 14 0 900 rfl; have f13 : (s4.1 0 14).toInt = (s2.1 0 14).toInt := j_fr hs4.1 0 14 34 rfl rfl; have f14 := j_rd js2 0 14 0 900 rfl; have f15 : (s2.1 0 14).toInt = (s.1 0 14).toInt := j_fr hs2.1 0 14 34 rfl rfl; have f16 := j_rd hJ 0 14 0 900 rfl; omega)) rfl 32 rfl rfl)
                      exact ⟨js14, trivial⟩
                    · refine oq_n (fun s15 es15 => ?_)
                      have js15 : JM 64424509440 s0 s15 := by rw [es15]; exact (j_wf (j_wr 0 900 js10 rfl 34 rfl rfl (by have f0 := i_add (s10.1 0 14) ((1 : Int32)); have f1 := j_rd js10 0 14 0 900 rfl; have f2 : (s10.1 0 14).toInt = (s8.1 0 14).toInt := j_fr hs10.1 0 14 34 rfl rfl; have f3 : (1 : Int32).toInt = 1 := rfl; have f4 := j_rd js8 0 14 0 900 rfl; have f5 : (s8.1 0 14).toInt = ((pI s6 0 15 r5).1 0 14).toInt := j_fr hs8.1 0 14 34 rfl rfl; have f6 := j_rd ((j_wf js6 rfl 35 rfl rfl) : JM 64424509440 s0 (pI s6 0 15 r5)) 0 14 0 900 rfl; have f7 : ((pI s6 0 15 r5).1 0 14).toInt = (s6.1 0 14).toInt := u_ne rfl; have f8 := j_rd js6 0 14 0 900 rfl; have f9 : (s6.1 0 14).toInt = ((pI s4 0 13 (s4.1 0 14)).1 0 14).toInt := j_fr hs6.1 0 14 34 rfl rfl; have f10 := j_rd ((j_wr 0 900 js4 rfl 33 rfl rfl (by have f0 := j_rd js4 0 14 0 900 rfl; omega)) : JM 64424509440 s0 (pI s4 0 13 (s4.1 0 14))) 0 14 0 900 rfl; have f11 : ((pI s4 0 13 (s4.1 0 14)).1 0 14).toInt = (s4.1 0 14).toInt := u_ne rfl; have f12 := j_rd js4 0 14 0 900 rfl; have f13 : (s4.1 0 14).toInt = (s2.1 0 14).toInt := j_fr hs4.1 0 14 34 rfl rfl; have f14 := j_rd js2 0 14 0 900 rfl; have f15 : (s2.1 0 14).toInt = (s.1 0 14).toInt := j_fr hs2.1 0 14 34 rfl rfl; have f16 := j_rd hJ 0 14 0 900 rfl; omega)) rfl 32 rfl rfl)
                      exact ⟨js15, trivial⟩
            · exact h_X12_ahead_b128 BIG  _ (j_wf js10 rfl 35 rfl rfl) (by have g0 := j_rd ((j_wf js10 rfl 35 rfl rfl) : JM 64424509440 s0 (pI s10 0 15 0)) 0 14 0 900 rfl; have g1 : ((pI s10 0 15 0).1 0 14).toInt = (s10.1 0 14).toInt := u_ne rfl; have g2 := j_rd js10 0 14 0 900 rfl; have g3 : (s10.1 0 14).toInt = (s8.1 0 14).toInt := j_fr hs10.1 0 14 34 rfl rfl; have g4 := j_rd js8 0 14 0 900 rfl; have g5 : (s8.1 0 14).toInt = ((pI s6 0 15 r5).1 0 14).toInt := j_fr hs8.1 0 14 34 rfl rfl; have g6 := j_rd ((j_wf js6 rfl 35 rfl rfl) : JM 64424509440 s0 (pI s6 0 15 r5)) 0 14 0 900 rfl; have g7 : ((pI s6 0 15 r5).1 0 14).toInt = (s6.1 0 14).toInt := u_ne rfl; have g8 := j_rd js6 0 14 0 900 rfl; have g9 : (s6.1 0 14).toInt = ((pI s4 0 13 (s4.1 0 14)).1 0 14).toInt := j_fr hs6.1 0 14 34 rfl rfl; have g10 := j_rd ((j_wr 0 900 js4 rfl 33 rfl rfl (by have f0 := j_rd js4 0 14 0 900 rfl; omega)) : JM 64424509440 s0 (pI s4 0 13 (s4.1 0 14))) 0 14 0 900 rfl; have g11 : ((pI s4 0 13 (s4.1 0 14)).1 0 14).toInt = (s4.1 0 14).toInt := u_ne rfl; have g12 := j_rd js4 0 14 0 900 rfl; have g13 : (s4.1 0 14).toInt = (s2.1 0 14).toInt := j_fr hs4.1 0 14 34 rfl rfl; have g14 := j_rd js2 0 14 0 900 rfl; have g15 : (s2.1 0 14).toInt = (s.1 0 14).toInt := j_fr hs2.1 0 14 34 rfl rfl; have g16 := j_rd hJ 0 14 0 900 rfl; have g17 : BIG = 4294967296 := rfl; omega)
          · exact h_X12_ahead_b81 BIG  _ js8 (by have g0 := j_rd js8 0 14 0 900 rfl; have g1 : (s8.1 0 14).toInt = ((pI s6 0 15 r5).1 0 14).toInt := j_fr hs8.1 0 14 34 rfl rfl; have g2 := j_rd ((j_wf js6 rfl 35 rfl rfl) : JM 64424509440 s0 (pI s6 0 15 r5)) 0 14 0 900 rfl; have g3 : ((pI s6 0 15 r5).1 0 14).toInt = (s6.1 0 14).toInt := u_ne rfl; have g4 := j_rd js6 0 14 0 900 rfl; have g5 : (s6.1 0 14).toInt = ((pI s4 0 13 (s4.1 0 14)).1 0 14).toInt := j_fr hs6.1 0 14 34 rfl rfl; have g6 := j_rd ((j_wr 0 900 js4 rfl 33 rfl rfl (by have f0 := j_rd js4 0 14 0 900 rfl; omega)) : JM 64424509440 s0 (pI s4 0 13 (s4.1 0 14))) 0 14 0 900 rfl; have g7 : ((pI s4 0 13 (s4.1 0 14)).1 0 14).toInt = (s4.1 0 14).toInt := u_ne rfl; have g8 := j_rd js4 0 14 0 900 rfl; have g9 : (s4.1 0 14).toInt = (s2.1 0 14).toInt := j_fr hs4.1 0 14 34 rfl rfl; have g10 := j_rd js2 0 14 0 900 rfl; have g11 : (s2.1 0 14).toInt = (s.1 0 14).toInt := j_fr hs2.1 0 14 34 rfl rfl; have g12 := j_rd hJ 0 14 0 900 rfl; have g13 : BIG = 4294967296 := rfl; omega)
theorem h_X12_ahead  {s : Sg} (hR : Rg rM s) : OQ (f_X12_ahead  s) (fun _ s9 => JM 64424509440 s s9 ∧ True) := by
  have hJ : JM 64424509440 s s := j_refl hR
  unfold f_X12_ahead
  exact h_X12_ahead_b0 BIG  _ hJ (by have g0 := j_rd hJ 0 14 0 900 rfl; have g1 : BIG = 4294967296 := rfl; omega)
theorem h_X12_begins_b26 {s0 : Sg} (n : Nat) : ∀ (v1 : Int32) (v3 : Int32) (s : Sg), JM 1029718409344 s0 s → 0 ≤ v1.toInt ∧ v1.toInt ≤ 900 → 0 ≤ v3.toInt ∧ v3.toInt ≤ 900 → 900 - v3.toInt < (n : Int) → OQ (f_X12_begins_b26 n v1 v3 s) (fun r9 s9 => JM 1029718409344 s0 s9 ∧ (0 ≤ r9.toInt ∧ r9.toInt ≤ 1) ∧ (r9 = 0 → True) ∧ (¬ r9 = 0 → True)) := by
  induction n with
  | zero => intro v1 v3 s hJ p_v1 p_v3 hn; exact False.elim (by have g0 := hn; have g1 := p_v1; have g2 := p_v3; have g3 := i_rg v1; have g4 := i_rg v3; omega)
  | succ n ih =>
    intro v1 v3 s hJ p_v1 p_v3 hn
    unfold f_X12_begins_b26
    refine oq_if (fun c1 => ?_) (fun c1 => ?_)
    · refine oq_n (fun s1 es1 => ?_)
      have js1 : JM 1029718409344 s0 s1 := by rw [es1]; exact (j_wf (j_wf (j_wr 0 900 hJ rfl 30 rfl rfl (by have f0 : (0 : Int32).toInt = 0 := rfl; omega)) rfl 38 rfl rfl) rfl 37 rfl rfl)
      refine oq_b (h_X12_ahead  ((j_wf (j_wr 0 900 js1 rfl 34 rfl rfl (by have f0 : (0 : Int32).toInt = 0 := rfl; omega)) rfl 39 rfl rfl) : JM 1029718409344 s0 (pI (pI s1 0 14 0) 0 19 0)).1) (fun u2 s3 hs3 => ?_)
      have js3 : JM 1029718409344 s0 s3 := j_call ((j_wf (j_wr 0 900 js1 rfl 34 rfl rfl (by have f0 : (0 : Int32).toInt = 0 := rfl; omega)) rfl 39 rfl rfl) : JM 1029718409344 s0 (pI (pI s1 0 14 0) 0 19 0)) hs3.1 rfl
      exact ⟨js3, (by have f0 : (1 : Int32).toInt = 1 := rfl; omega), fun w9 => absurd w9 (by decide), fun _ => trivial⟩
    · refine oq_c (inr_of (by have f0 := p_v3; have f1 := i_rg v3; have f2 := i_nle c1; have f3 := p_v1; have f4 := i_rg v1; omega)) ?_
      refine oq_n (fun s5 es5 => ?_)
      have js5 : JM 1029718409344 s0 s5 := by rw [es5]; exact (j_wf hJ rfl 7 rfl rfl)
      exact ih _ _ _ js5 (by have f0 := p_v1; have f1 := i_rg v1; have f2 := i_nle c1; have f3 := p_v3; have f4 := i_rg v3; omega) (by have f0 := i_add (v3) ((1 : Int32)); have f1 := p_v3; have f2 := i_rg v3; have f3 : (1 : Int32).toInt = 1 := rfl; have f4 := i_nle c1; have f5 := p_v1; have f6 := i_rg v1; omega) (by have g0 := i_add (v3) ((1 : Int32)); have g1 := p_v1; have g2 := i_rg v1; have g3 := p_v3; have g4 := i_rg v3; have g5 : (1 : Int32).toInt = 1 := rfl; have g6 := i_nle c1; have g7 := hn; omega)
theorem h_X12_begins (a1 : Int32) (a2 : Int32) {s : Sg} (hR : Rg rM s) (p_a2 : 300 ≤ a2.toInt ∧ a2.toInt ≤ 900) : OQ (f_X12_begins a1 a2 s) (fun r9 s9 => JM 1029718409344 s s9 ∧ (0 ≤ r9.toInt ∧ r9.toInt ≤ 1) ∧ (r9 = 0 → True) ∧ (¬ r9 = 0 → True)) := by
  have hJ : JM 1029718409344 s s := j_refl hR
  unfold f_X12_begins
  refine oq_if (fun c1 => ?_) (fun c1 => ?_)
  · exact ⟨hJ, (by have f0 : (0 : Int32).toInt = 0 := rfl; omega), fun _ => trivial, fun w9 => absurd rfl w9⟩
  · refine oq_if (fun c2 => ?_) (fun c2 => ?_)
    · exact ⟨hJ, (by have f0 : (0 : Int32).toInt = 0 := rfl; omega), fun _ => trivial, fun w9 => absurd rfl w9⟩
    · refine oq_if (fun c3 => ?_) (fun c3 => ?_)
      · exact h_X12_begins_b26 BIG _ _ _ (j_wr 0 900 hJ rfl 31 rfl rfl (by have f0 := i_rg a1; have f1 := i_nlt c1; have f2 := i_nlt c2; have f3 := i_le c3; have f4 : (0 : Int32).toInt = 0 := rfl; have f5 := j_rd hJ 0 10 0 900 rfl; have f6 := p_a2; have f7 := i_rg a2; omega)) (by have f0 := i_rg a1; have f1 := i_nlt c1; have f2 := i_nlt c2; have f3 := i_le c3; have f4 : (0 : Int32).toInt = 0 := rfl; have f5 := j_rd hJ 0 10 0 900 rfl; have f6 := p_a2; have f7 := i_rg a2; omega) (by have f0 : (0 : Int32).toInt = 0 := rfl; omega) (by have g0 := i_rg a1; have g1 : (0 : Int32).toInt = 0 := rfl; have g2 := i_nlt c1; have g3 := i_nlt c2; have g4 := i_le c3; have g5 := j_rd hJ 0 10 0 900 rfl; have g6 := p_a2; have g7 := i_rg a2; have g8 : BIG = 4294967296 := rfl; omega)
      · exact ⟨hJ, (by have f0 : (0 : Int32).toInt = 0 := rfl; omega), fun _ => trivial, fun w9 => absurd rfl w9⟩
theorem h_X12_refuse (a1 : Int32) {s : Sg} (hR : Rg rM s) (p_a1 : 1 ≤ a1.toInt ∧ a1.toInt ≤ 9) : OQ (f_X12_refuse a1 s) (fun r9 s9 => JM 4194304 s s9 ∧ ((-1) ≤ r9.toInt ∧ r9.toInt ≤ (-1)) ∧ (r9 = 0 → True) ∧ (¬ r9 = 0 → True)) := by
  have hJ : JM 4194304 s s := j_refl hR
  unfold f_X12_refuse
  exact ⟨(j_wf hJ rfl 22 rfl rfl), (by have f0 : ((-1) : Int32).toInt = (-1) := rfl; omega), fun w9 => absurd w9 (by decide), fun _ => trivial⟩
theorem h_X12_plain_b2 {s0 : Sg} (n : Nat) : ∀ (v1 : Int32) (v2 : Int32) (s : Sg), JM 5080504712301381033556831109120 s0 s → 1920 ≤ v1.toInt ∧ v1.toInt ≤ 1920 → 0 ≤ v2.toInt ∧ v2.toInt ≤ 511 → 511 - v2.toInt < (n : Int) → OQ (f_X12_plain_b2 n v1 v2 s) (fun _ s9 => JM 5080504712301381033556831109120 s0 s9 ∧ True) := by
  induction n with
  | zero => intro v1 v2 s hJ p_v1 p_v2 hn; exact False.elim (by have g0 := hn; have g1 := p_v1; have g2 := p_v2; have g3 := i_rg v1; have g4 := i_rg v2; omega)
  | succ n ih =>
    intro v1 v2 s hJ p_v1 p_v2 hn
    unfold f_X12_plain_b2
    refine oq_if (fun c1 => ?_) (fun c1 => ?_)
    · refine oq_c (inr_of (by have f0 := i_add (v1) ((11 : Int32)); have f1 := p_v1; have f2 := i_rg v1; have f3 : (11 : Int32).toInt = 11 := rfl; omega)) ?_
      refine oq_n (fun s2 es2 => ?_)
      have js2 : JM 5080504712301381033556831109120 s0 s2 := by rw [es2]; exact (j_wm hJ (rz_rows (by have d0 := i_add (v1) ((11 : Int32)); have d1 := p_v1; have d2 := i_rg v1; have d3 : (11 : Int32).toInt = 11 := rfl; have d4 := cl_nat (v1 + 11); omega) (by have f0 : ((-1) : Int32).toInt = (-1) := rfl; omega)) (mk_n rfl (by have d0 := i_add (v1) ((11 : Int32)); have d1 := p_v1; have d2 := i_rg v1; have d3 : (11 : Int32).toInt = 11 := rfl; have d4 := cl_nat (v1 + 11); omega)))
      refine oq_c (inr_of (by have f0 := i_add (v1) ((13 : Int32)); have f1 := p_v1; have f2 := i_rg v1; have f3 : (13 : Int32).toInt = 13 := rfl; omega)) ?_
      refine oq_n (fun s4 es4 => ?_)
      have js4 : JM 5080504712301381033556831109120 s0 s4 := by rw [es4]; exact (j_wm js2 (rz_f (by have d0 := i_add (v1) ((13 : Int32)); have d1 := p_v1; have d2 := i_rg v1; have d3 : (13 : Int32).toInt = 13 := rfl; have d4 := cl_nat (v1 + 13); omega) (5 : Int32)) (mk_n rfl (by have d0 := i_add (v1) ((13 : Int32)); have d1 := p_v1; have d2 := i_rg v1; have d3 : (13 : Int32).toInt = 13 := rfl; have d4 := cl_nat (v1 + 13); omega)))
      exact ⟨js4, trivial⟩
    · refine oq_c (inr_of (by have f0 := i_add (v1) (v2); have f1 := p_v1; have f2 := i_rg v1; have f3 := p_v2; have f4 := i_rg v2; have f5 := i_nle c1; have f6 : (480 : Int32).toInt = 480 := rfl; omega)) ?_
      refine oq_n (fun s6 es6 => ?_)
      have js6 : JM 5080504712301381033556831109120 s0 s6 := by rw [es6]; exact (j_wm hJ (rz_0 ((v1 + v2).toNatClampNeg)) (mk_n rfl (by have d0 := i_add (v1) (v2); have d1 := p_v1; have d2 := i_rg v1; have d3 := p_v2; have d4 := i_rg v2; have d5 := i_nle c1; have d6 : (480 : Int32).toInt = 480 := rfl; have d7 := cl_nat (v1 + v2); omega)))
      exact ih _ _ _ js6 (by have f0 := p_v1; have f1 := i_rg v1; omega) (by have f0 := i_add (v2) ((1 : Int32)); have f1 := p_v2; have f2 := i_rg v2; have f3 : (1 : Int32).toInt = 1 := rfl; have f4 := i_nle c1; have f5 : (480 : Int32).toInt = 480 := rfl; omega) (by have g0 := i_add (v2) ((1 : Int32)); have g1 := p_v1; have g2 := i_rg v1; have g3 := p_v2; have g4 := i_rg v2; have g5 : (1 : Int32).toInt = 1 := rfl; have g6 := i_nle c1; have g7 : (480 : Int32).toInt = 480 := rfl; have g8 := hn; omega)
theorem h_X12_plain (a1 : Int32) {s : Sg} (hR : Rg rM s) (p_a1 : 1920 ≤ a1.toInt ∧ a1.toInt ≤ 1920) : OQ (f_X12_plain a1 s) (fun _ s9 => JM 5080504712301381033556831109120 s s9 ∧ True) := by
  have hJ : JM 5080504712301381033556831109120 s s := j_refl hR
  unfold f_X12_plain
  exact h_X12_plain_b2 BIG _ _ _ hJ (by have f0 := p_a1; have f1 := i_rg a1; omega) (by have f0 : (0 : Int32).toInt = 0 := rfl; omega) (by have g0 := p_a1; have g1 := i_rg a1; have g2 : (0 : Int32).toInt = 0 := rfl; have g3 : BIG = 4294967296 := rfl; omega)
theorem h_X12_gives (a1 : Int32) {s : Sg} (hR : Rg rM s) : OQ (f_X12_gives a1 s) (fun r9 s9 => JM 4194304 s s9 ∧ True ∧ (r9 = 0 → 0 ≤ (a1).toInt ∧ (a1).toInt ≤ 0) ∧ (¬ r9 = 0 → True)) := by
  have hJ : JM 4194304 s s := j_refl hR
  unfold f_X12_gives
  exact ⟨(j_wf hJ rfl 22 rfl rfl), trivial, fun w9 => ⟨(by have f0 : (0 : Int32).toInt = 0 := rfl; have f1 := i_rg a1; have f2 := i_eq w9; omega), (by have f0 := i_rg a1; have f1 : (0 : Int32).toInt = 0 := rfl; have f2 := i_eq w9; omega)⟩, fun _ => trivial⟩
theorem h_X12_taken (a1 : Int32) {s : Sg} (hR : Rg rM s) (p_a1 : 0 ≤ a1.toInt ∧ a1.toInt ≤ 31) : OQ (f_X12_taken a1 s) (fun r9 s9 => JM 68723671040 s s9 ∧ True ∧ (r9 = 0 → (a1).toInt ≤ 0) ∧ (¬ r9 = 0 → True)) := by
  have hJ : JM 68723671040 s s := j_refl hR
  unfold f_X12_taken
  refine oq_if (fun c1 => ?_) (fun c1 => ?_)
  · refine oq_b (h_X12_gives _ ((j_wf hJ rfl 36 rfl rfl) : JM 68723671040 s (pI s 0 16 (s.1 0 18))).1) (fun r1 s2 hs2 => ?_)
    have js2 : JM 68723671040 s s2 := j_call ((j_wf hJ rfl 36 rfl rfl) : JM 68723671040 s (pI s 0 16 (s.1 0 18))) hs2.1 rfl
    exact ⟨js2, trivial, fun w9 => (by have f0 := p_a1; have f1 := i_rg a1; have f2 : (0 : Int32).toInt = 0 := rfl; have f3 := (hs2.2.2.1 w9).1; have f4 := (hs2.2.2.1 w9).2; omega), fun _ => trivial⟩
  · refine oq_b (h_X12_refuse _ ((j_wf hJ rfl 36 rfl rfl) : JM 68723671040 s (pI s 0 16 (s.1 0 18))).1 (by have f0 : (9 : Int32).toInt = 9 := rfl; omega)) (fun r3 s4 hs4 => ?_)
    have js4 : JM 68723671040 s s4 := j_call ((j_wf hJ rfl 36 rfl rfl) : JM 68723671040 s (pI s 0 16 (s.1 0 18))) hs4.1 rfl
    exact ⟨js4, trivial, fun w9 => False.elim (by have f0 := hs4.2.1; have f1 := i_rg r3; have f2 := i_eq w9; have f3 : (0 : Int32).toInt = 0 := rfl; omega), fun _ => trivial⟩
theorem h_X12_inWords_1001_b115 {s0 : Sg} (k_14 : Int32 → Int32 → Sg → Option (Int32 × Sg)) (m_14 : Nat) (hk_14 : ∀ (v2 : Int32) (v3 : Int32) (s : Sg), JM 0 s0 s → 1 ≤ v3.toInt ∧ v3.toInt ≤ 168 → 168 - v3.toInt < (m_14 : Int) → OQ (k_14 v2 v3 s) (fun r9 s9 => JM 0 s0 s9 ∧ True ∧ (r9 = 0 → True) ∧ (¬ r9 = 0 → True))) (v2 : Int32) (v4 : Int32) (v5 : Int32) (s : Sg) (hJ : JM 0 s0 s) (p_v4 : 1 ≤ v4.toInt ∧ v4.toInt ≤ 167) (p_v5 : 0 ≤ v5.toInt ∧ v5.toInt ≤ 1) (hm_14 : 168 - v4.toInt < (m_14 : Int) + 1) : OQ (f_X12_inWords_1001_b115 k_14 v2 v4 v5 s) (fun r9 s9 => JM 0 s0 s9 ∧ True ∧ (r9 = 0 → True) ∧ (¬ r9 = 0 → True)) := by
  unfold f_X12_inWords_1001_b115
  refine oq_if (fun c1 => ?_) (fun c1 => ?_)
  · exact hk_14 _ _ _ hJ (by have f0 := i_add (v4) ((1 : Int32)); have f1 := p_v4; have f2 := i_rg v4; have f3 : (1 : Int32).toInt = 1 := rfl; omega) (by have g0 := i_add (v2) ((1 : Int32)); have g1 := i_add (v4) ((1 : Int32)); have g2 := i_rg v2; have g3 : (1 : Int32).toInt = 1 := rfl; have g4 := p_v4; have g5 := i_rg v4; have g6 := hm_14; omega)
  · exact ⟨hJ, trivial, fun _ => trivial, fun _ => trivial⟩
theorem h_X12_inWords_1001_b68 {s0 : Sg} (k_14 : Int32 → Int32 → Sg → Option (Int32 × Sg)) (m_14 : Nat) (hk_14 : ∀ (v2 : Int32) (v3 : Int32) (s : Sg), JM 0 s0 s → 1 ≤ v3.toInt ∧ v3.toInt ≤ 168 → 168 - v3.toInt < (m_14 : Int) → OQ (k_14 v2 v3 s) (fun r9 s9 => JM 0 s0 s9 ∧ True ∧ (r9 = 0 → True) ∧ (¬ r9 = 0 → True))) (n : Nat) : ∀ (v2 : Int32) (v3 : Int32) (v4 : Int32) (v5 : Int32) (v6 : Int32) (s : Sg), JM 0 s0 s → 1 ≤ v3.toInt ∧ v3.toInt ≤ 167 → 1 ≤ v4.toInt ∧ v4.toInt ≤ 167 → 0 ≤ v5.toInt ∧ v5.toInt ≤ 1 → 1 ≤ v6.toInt ∧ v6.toInt ≤ 167 → (v3.toInt ≤ v6.toInt ∧ v3.toInt ≤ v4.toInt) → 168 - v3.toInt < (m_14 : Int) + 1 → 167 - v6.toInt < (n : Int) → OQ (f_X12_inWords_1001_b68 k_14 n v2 v3 v4 v5 v6 s) (fun r9 s9 => JM 0 s0 s9 ∧ True ∧ (r9 = 0 → True) ∧ (¬ r9 = 0 → True)) := by
  induction n with
  | zero => intro v2 v3 v4 v5 v6 s hJ p_v3 p_v4 p_v5 p_v6 x_1 hm_14 hn; exact False.elim (by have g0 := hn; have g1 := p_v3; have g2 := p_v4; have g3 := p_v5; have g4 := p_v6; have g5 := i_rg v2; have g6 := i_rg v3; have g7 := i_rg v4; have g8 := i_rg v5; have g9 := i_rg v6; have g10 := x_1; omega)
  | succ n ih =>
    intro v2 v3 v4 v5 v6 s hJ p_v3 p_v4 p_v5 p_v6 x_1 hm_14 hn
    unfold f_X12_inWords_1001_b68
    refine oq_if (fun c1 => ?_) (fun c1 => ?_)
    · exact h_X12_inWords_1001_b115 _ m_14 hk_14 _ _ _ _ hJ (by have f0 := p_v4; have f1 := i_rg v4; have f2 := x_1; have f3 := i_le c1; have f4 := p_v3; have f5 := i_rg v3; have f6 := p_v6; have f7 := i_rg v6; omega) (by have f0 := p_v5; have f1 := i_rg v5; omega) (by have g0 := i_rg v2; have g1 := p_v4; have g2 := i_rg v4; have g3 := p_v5; have g4 := i_rg v5; have g5 := x_1; have g6 := i_le c1; have g7 := p_v3; have g8 := i_rg v3; have g9 := p_v6; have g10 := i_rg v6; have g11 := hm_14; omega)
    · refine oq_if (fun c2 => ?_) (fun c2 => ?_)
      · exact h_X12_inWords_1001_b115 _ m_14 hk_14 _ _ _ _ hJ (by have f0 := p_v4; have f1 := i_rg v4; have f2 := x_1; have f3 := i_nle c1; have f4 := p_v3; have f5 := i_rg v3; have f6 := p_v6; have f7 := i_rg v6; omega) (by have f0 := p_v5; have f1 := i_rg v5; have f2 := i_eq c2; have f3 : (0 : Int32).toInt = 0 := rfl; omega) (by have g0 := i_rg v2; have g1 := p_v4; have g2 := i_rg v4; have g3 := p_v5; have g4 := i_rg v5; have g5 := x_1; have g6 := i_nle c1; have g7 := i_eq c2; have g8 := p_v3; have g9 := i_rg v3; have g10 := p_v6; have g11 := i_rg v6; have g12 : (0 : Int32).toInt = 0 := rfl; have g13 := hm_14; omega)
      · refine oq_c (inr_of (by have f0 := p_v6; have f1 := i_rg v6; have f2 := x_1; have f3 := i_nle c1; have f4 := p_v3; have f5 := i_rg v3; have f6 := p_v4; have f7 := i_rg v4; omega)) ?_
        refine oq_b (h_X12_byteAt _ hJ.1 (by have f0 := i_add (s.1 0 13) (v6); have f1 := i_sub ((s.1 0 13) + v6) (v3); have f2 := j_rd hJ 0 13 0 900 rfl; have f3 := p_v6; have f4 := i_rg v6; have f5 := p_v3; have f6 := i_rg v3; have f7 := x_1; have f8 := i_nle c1; have f9 := p_v4; have f10 := i_rg v4; omega)) (fun r1 s2 hs2 => ?_)
        have js2 : JM 0 s0 s2 := j_call hJ hs2.1 rfl
        refine oq_if (fun c3 => ?_) (fun c3 => ?_)
        · exact ih _ _ _ _ _ _ js2 (by have f0 := p_v3; have f1 := i_rg v3; have f2 := x_1; have f3 := i_nle c1; have f4 := p_v4; have f5 := i_rg v4; have f6 := p_v6; have f7 := i_rg v6; omega) (by have f0 := p_v4; have f1 := i_rg v4; have f2 := x_1; have f3 := i_nle c1; have f4 := p_v3; have f5 := i_rg v3; have f6 := p_v6; have f7 := i_rg v6; omega) (by have f0 : (1 : Int32).toInt = 1 := rfl; omega) (by have f0 := i_add (v6) ((1 : Int32)); have f1 := p_v6; have f2 := i_rg v6; have f3 : (1 : Int32).toInt = 1 := rfl; have f4 := x_1; have f5 := i_nle c1; have f6 := p_v3; have f7 := i_rg v3; have f8 := p_v4; have f9 := i_rg v4; omega) (by have g0 := i_add (v6) ((1 : Int32)); have g1 := p_v3; have g2 := i_rg v3; have g3 := p_v4; have g4 := i_rg v4; have g5 := p_v6; have g6 := i_rg v6; have g7 : (1 : Int32).toInt = 1 := rfl; have g8 := x_1; have g9 := i_nle c1; omega) (by have g0 := i_add (v6) ((1 : Int32)); have g1 := i_rg v2; have g2 := p_v3; have g3 := i_rg v3; have g4 := p_v4; have g5 := i_rg v4; have g6 : (1 : Int32).toInt = 1 := rfl; have g7 := p_v6; have g8 := i_rg v6; have g9 := x_1; have g10 := i_nle c1; have g11 := hm_14; omega) (by have g0 := i_add (v6) ((1 : Int32)); have g1 := i_rg v2; have g2 := p_v3; have g3 := i_rg v3; have g4 := p_v4; have g5 := i_rg v4; have g6 : (1 : Int32).toInt = 1 := rfl; have g7 := p_v6; have g8 := i_rg v6; have g9 := x_1; have g10 := i_nle c1; have g11 := hn; omega)
        · exact ih _ _ _ _ _ _ js2 (by have f0 := p_v3; have f1 := i_rg v3; have f2 := x_1; have f3 := i_nle c1; have f4 := p_v4; have f5 := i_rg v4; have f6 := p_v6; have f7 := i_rg v6; omega) (by have f0 := p_v4; have f1 := i_rg v4; have f2 := x_1; have f3 := i_nle c1; have f4 := p_v3; have f5 := i_rg v3; have f6 := p_v6; have f7 := i_rg v6; omega) (by have f0 : (0 : Int32).toInt = 0 := rfl; omega) (by have f0 := i_add (v6) ((1 : Int32)); have f1 := p_v6; have f2 := i_rg v6; have f3 : (1 : Int32).toInt = 1 := rfl; have f4 := x_1; have f5 := i_nle c1; have f6 := p_v3; have f7 := i_rg v3; have f8 := p_v4; have f9 := i_rg v4; omega) (by have g0 := i_add (v6) ((1 : Int32)); have g1 := p_v3; have g2 := i_rg v3; have g3 := p_v4; have g4 := i_rg v4; have g5 := p_v6; have g6 := i_rg v6; have g7 : (1 : Int32).toInt = 1 := rfl; have g8 := x_1; have g9 := i_nle c1; omega) (by have g0 := i_add (v6) ((1 : Int32)); have g1 := i_rg v2; have g2 := p_v3; have g3 := i_rg v3; have g4 := p_v4; have g5 := i_rg v4; have g6 : (0 : Int32).toInt = 0 := rfl; have g7 := p_v6; have g8 := i_rg v6; have g9 : (1 : Int32).toInt = 1 := rfl; have g10 := x_1; have g11 := i_nle c1; have g12 := hm_14; omega) (by have g0 := i_add (v6) ((1 : Int32)); have g1 := i_rg v2; have g2 := p_v3; have g3 := i_rg v3; have g4 := p_v4; have g5 := i_rg v4; have g6 : (0 : Int32).toInt = 0 := rfl; have g7 := p_v6; have g8 := i_rg v6; have g9 : (1 : Int32).toInt = 1 := rfl; have g10 := x_1; have g11 := i_nle c1; have g12 := hn; omega)
theorem h_X12_inWords_1001_b25 {s0 : Sg} (k_14 : Int32 → Int32 → Sg → Option (Int32 × Sg)) (m_14 : Nat) (hk_14 : ∀ (v2 : Int32) (v3 : Int32) (s : Sg), JM 0 s0 s → 1 ≤ v3.toInt ∧ v3.toInt ≤ 168 → 168 - v3.toInt < (m_14 : Int) → OQ (k_14 v2 v3 s) (fun r9 s9 => JM 0 s0 s9 ∧ True ∧ (r9 = 0 → True) ∧ (¬ r9 = 0 → True))) (n : Nat) : ∀ (v2 : Int32) (v3 : Int32) (v4 : Int32) (s : Sg), JM 0 s0 s → 1 ≤ v3.toInt ∧ v3.toInt ≤ 167 → 1 ≤ v4.toInt ∧ v4.toInt ≤ 167 → (v3.toInt ≤ v4.toInt) → 168 - v3.toInt < (m_14 : Int) + 1 → 167 - v4.toInt < (n : Int) → OQ (f_X12_inWords_1001_b25 k_14 n v2 v3 v4 s) (fun r9 s9 => JM 0 s0 s9 ∧ True ∧ (r9 = 0 → True) ∧ (¬ r9 = 0 → True)) := by
  induction n with
  | zero => intro v2 v3 v4 s hJ p_v3 p_v4 x_1 hm_14 hn; exact False.elim (by have g0 := hn; have g1 := p_v3; have g2 := p_v4; have g3 := i_rg v2; have g4 := i_rg v3; have g5 := i_rg v4; have g6 := x_1; omega)
  | succ n ih =>
    intro v2 v3 v4 s hJ p_v3 p_v4 x_1 hm_14 hn
    unfold f_X12_inWords_1001_b25
    refine oq_c (inr_of (by have f0 := p_v4; have f1 := i_rg v4; have f2 := x_1; have f3 := p_v3; have f4 := i_rg v3; omega)) ?_
    refine oq_if (fun c1 => ?_) (fun c1 => ?_)
    · refine oq_if (fun c2 => ?_) (fun c2 => ?_)
      · exact h_X12_inWords_1001_b68 _ m_14 hk_14 BIG _ _ _ _ _ _ hJ (by have f0 := p_v3; have f1 := i_rg v3; have f2 := x_1; have f3 := i_eq c2; have f4 := i_sub (v4) (v3); have f5 := i_sub (s.1 0 14) (s.1 0 13); have f6 := p_v4; have f7 := i_rg v4; have f8 := j_rd hJ 0 14 0 900 rfl; have f9 := j_rd hJ 0 13 0 900 rfl; omega) (by have f0 := p_v4; have f1 := i_rg v4; have f2 := x_1; have f3 := i_eq c2; have f4 := i_sub (v4) (v3); have f5 := i_sub (s.1 0 14) (s.1 0 13); have f6 := p_v3; have f7 := i_rg v3; have f8 := j_rd hJ 0 14 0 900 rfl; have f9 := j_rd hJ 0 13 0 900 rfl; omega) (by have f0 : (1 : Int32).toInt = 1 := rfl; omega) (by have f0 := p_v3; have f1 := i_rg v3; have f2 := x_1; have f3 := i_eq c2; have f4 := i_sub (v4) (v3); have f5 := i_sub (s.1 0 14) (s.1 0 13); have f6 := p_v4; have f7 := i_rg v4; have f8 := j_rd hJ 0 14 0 900 rfl; have f9 := j_rd hJ 0 13 0 900 rfl; omega) (by have g0 := p_v3; have g1 := i_rg v3; have g2 := p_v4; have g3 := i_rg v4; have g4 := x_1; have g5 := i_eq c2; have g6 := i_sub (v4) (v3); have g7 := i_sub (s.1 0 14) (s.1 0 13); have g8 := j_rd hJ 0 14 0 900 rfl; have g9 := j_rd hJ 0 13 0 900 rfl; omega) (by have g0 := i_rg v2; have g1 := p_v3; have g2 := i_rg v3; have g3 := p_v4; have g4 := i_rg v4; have g5 : (1 : Int32).toInt = 1 := rfl; have g6 := x_1; have g7 := i_eq c2; have g8 := i_sub (v4) (v3); have g9 := i_sub (s.1 0 14) (s.1 0 13); have g10 := j_rd hJ 0 14 0 900 rfl; have g11 := j_rd hJ 0 13 0 900 rfl; have g12 := hm_14; omega) (by have g0 := i_rg v2; have g1 := p_v3; have g2 := i_rg v3; have g3 := p_v4; have g4 := i_rg v4; have g5 : (1 : Int32).toInt = 1 := rfl; have g6 := x_1; have g7 := i_eq c2; have g8 := i_sub (v4) (v3); have g9 := i_sub (s.1 0 14) (s.1 0 13); have g10 := j_rd hJ 0 14 0 900 rfl; have g11 := j_rd hJ 0 13 0 900 rfl; have g12 : BIG = 4294967296 := rfl; omega)
      · exact h_X12_inWords_1001_b68 _ m_14 hk_14 BIG _ _ _ _ _ _ hJ (by have f0 := p_v3; have f1 := i_rg v3; have f2 := x_1; have f3 := i_ne c2; have f4 := i_sub (v4) (v3); have f5 := i_sub (s.1 0 14) (s.1 0 13); have f6 := p_v4; have f7 := i_rg v4; have f8 := j_rd hJ 0 14 0 900 rfl; have f9 := j_rd hJ 0 13 0 900 rfl; omega) (by have f0 := p_v4; have f1 := i_rg v4; have f2 := x_1; have f3 := i_ne c2; have f4 := i_sub (v4) (v3); have f5 := i_sub (s.1 0 14) (s.1 0 13); have f6 := p_v3; have f7 := i_rg v3; have f8 := j_rd hJ 0 14 0 900 rfl; have f9 := j_rd hJ 0 13 0 900 rfl; omega) (by have f0 : (0 : Int32).toInt = 0 := rfl; omega) (by have f0 := p_v3; have f1 := i_rg v3; have f2 := x_1; have f3 := i_ne c2; have f4 := i_sub (v4) (v3); have f5 := i_sub (s.1 0 14) (s.1 0 13); have f6 := p_v4; have f7 := i_rg v4; have f8 := j_rd hJ 0 14 0 900 rfl; have f9 := j_rd hJ 0 13 0 900 rfl; omega) (by have g0 := p_v3; have g1 := i_rg v3; have g2 := p_v4; have g3 := i_rg v4; have g4 := x_1; have g5 := i_ne c2; have g6 := i_sub (v4) (v3); have g7 := i_sub (s.1 0 14) (s.1 0 13); have g8 := j_rd hJ 0 14 0 900 rfl; have g9 := j_rd hJ 0 13 0 900 rfl; omega) (by have g0 := i_rg v2; have g1 := p_v3; have g2 := i_rg v3; have g3 := p_v4; have g4 := i_rg v4; have g5 : (0 : Int32).toInt = 0 := rfl; have g6 := x_1; have g7 := i_ne c2; have g8 := i_sub (v4) (v3); have g9 := i_sub (s.1 0 14) (s.1 0 13); have g10 := j_rd hJ 0 14 0 900 rfl; have g11 := j_rd hJ 0 13 0 900 rfl; have g12 := hm_14; omega) (by have g0 := i_rg v2; have g1 := p_v3; have g2 := i_rg v3; have g3 := p_v4; have g4 := i_rg v4; have g5 : (0 : Int32).toInt = 0 := rfl; have g6 := x_1; have g7 := i_ne c2; have g8 := i_sub (v4) (v3); have g9 := i_sub (s.1 0 14) (s.1 0 13); have g10 := j_rd hJ 0 14 0 900 rfl; have g11 := j_rd hJ 0 13 0 900 rfl; have g12 : BIG = 4294967296 := rfl; omega)
    · exact ih _ _ _ _ hJ (by have f0 := p_v3; have f1 := i_rg v3; have f2 := x_1; have f3 := kw_last c1; have f4 := p_v4; have f5 := i_rg v4; have f6 : (167 : Int32).toInt = 167 := rfl; omega) (by have f0 := i_add (v4) ((1 : Int32)); have f1 := p_v4; have f2 := i_rg v4; have f3 : (1 : Int32).toInt = 1 := rfl; have f4 := x_1; have f5 := kw_last c1; have f6 := p_v3; have f7 := i_rg v3; have f8 : (167 : Int32).toInt = 167 := rfl; omega) (by have g0 := i_add (v4) ((1 : Int32)); have g1 := p_v3; have g2 := i_rg v3; have g3 := p_v4; have g4 := i_rg v4; have g5 : (1 : Int32).toInt = 1 := rfl; have g6 := x_1; have g7 := kw_last c1; have g8 : (167 : Int32).toInt = 167 := rfl; omega) (by have g0 := i_add (v4) ((1 : Int32)); have g1 := i_rg v2; have g2 := p_v3; have g3 := i_rg v3; have g4 := p_v4; have g5 := i_rg v4; have g6 : (1 : Int32).toInt = 1 := rfl; have g7 := x_1; have g8 := kw_last c1; have g9 : (167 : Int32).toInt = 167 := rfl; have g10 := hm_14; omega) (by have g0 := i_add (v4) ((1 : Int32)); have g1 := i_rg v2; have g2 := p_v3; have g3 := i_rg v3; have g4 := p_v4; have g5 := i_rg v4; have g6 : (1 : Int32).toInt = 1 := rfl; have g7 := x_1; have g8 := kw_last c1; have g9 : (167 : Int32).toInt = 167 := rfl; have g10 := hn; omega)
theorem h_X12_inWords_1001_b14 {s0 : Sg} (n : Nat) : ∀ (v2 : Int32) (v3 : Int32) (s : Sg), JM 0 s0 s → 1 ≤ v3.toInt ∧ v3.toInt ≤ 168 → 168 - v3.toInt < (n : Int) → OQ (f_X12_inWords_1001_b14 n v2 v3 s) (fun r9 s9 => JM 0 s0 s9 ∧ True ∧ (r9 = 0 → True) ∧ (¬ r9 = 0 → True)) := by
  induction n with
  | zero => intro v2 v3 s hJ p_v3 hn; exact False.elim (by have g0 := hn; have g1 := p_v3; have g2 := i_rg v2; have g3 := i_rg v3; omega)
  | succ n ih =>
    intro v2 v3 s hJ p_v3 hn
    unfold f_X12_inWords_1001_b14
    refine oq_if (fun c1 => ?_) (fun c1 => ?_)
    · exact ⟨hJ, trivial, fun w9 => absurd w9 (by decide), fun _ => trivial⟩
    · exact h_X12_inWords_1001_b25 _ n ih BIG _ _ _ _ hJ (by have f0 := p_v3; have f1 := i_rg v3; have f2 := i_nle c1; have f3 : (168 : Int32).toInt = 168 := rfl; omega) (by have f0 := p_v3; have f1 := i_rg v3; have f2 := i_nle c1; have f3 : (168 : Int32).toInt = 168 := rfl; omega) (by have g0 := p_v3; have g1 := i_rg v3; have g2 := i_nle c1; have g3 : (168 : Int32).toInt = 168 := rfl; omega) (by have g0 := i_rg v2; have g1 := p_v3; have g2 := i_rg v3; have g3 := i_nle c1; have g4 : (168 : Int32).toInt = 168 := rfl; have g5 := hn; omega) (by have g0 := i_rg v2; have g1 := p_v3; have g2 := i_rg v3; have g3 := i_nle c1; have g4 : (168 : Int32).toInt = 168 := rfl; have g5 : BIG = 4294967296 := rfl; omega)
theorem h_X12_inWords_1001  {s : Sg} (hR : Rg rM s) : OQ (f_X12_inWords_1001  s) (fun r9 s9 => JM 0 s s9 ∧ True ∧ (r9 = 0 → True) ∧ (¬ r9 = 0 → True)) := by
  have hJ : JM 0 s s := j_refl hR
  unfold f_X12_inWords_1001
  refine oq_if (fun c1 => ?_) (fun c1 => ?_)
  · exact h_X12_inWords_1001_b14 BIG _ _ _ hJ (by have f0 : (1 : Int32).toInt = 1 := rfl; omega) (by have g0 : (0 : Int32).toInt = 0 := rfl; have g1 : (1 : Int32).toInt = 1 := rfl; have g2 : BIG = 4294967296 := rfl; omega)
  · exact ⟨hJ, trivial, fun w9 => absurd w9 (by decide), fun _ => trivial⟩
theorem h_X12_fails (a1 : Int32) {s : Sg} (hR : Rg rM s) (p_a1 : 2 ≤ a1.toInt ∧ a1.toInt ≤ 7) : OQ (f_X12_fails a1 s) (fun r9 s9 => JM 412316860416 s s9 ∧ (0 ≤ r9.toInt ∧ r9.toInt ≤ 0) ∧ (r9 = 0 → True) ∧ (¬ r9 = 0 → True)) := by
  have hJ : JM 412316860416 s s := j_refl hR
  unfold f_X12_fails
  refine oq_if (fun c1 => ?_) (fun c1 => ?_)
  · refine oq_if (fun c2 => ?_) (fun c2 => ?_)
    · refine oq_n (fun s1 es1 => ?_)
      have js1 : JM 412316860416 s s1 := by rw [es1]; exact (j_wf (j_wf hJ rfl 38 rfl rfl) rfl 37 rfl rfl)
      exact ⟨js1, (by have f0 : (0 : Int32).toInt = 0 := rfl; omega), fun _ => trivial, fun w9 => absurd rfl w9⟩
    · refine oq_n (fun s2 es2 => ?_)
      have js2 : JM 412316860416 s s2 := by rw [es2]; exact (j_wf (j_wf hJ rfl 38 rfl rfl) rfl 37 rfl rfl)
      exact ⟨js2, (by have f0 : (0 : Int32).toInt = 0 := rfl; omega), fun _ => trivial, fun w9 => absurd rfl w9⟩
  · exact ⟨hJ, (by have f0 : (0 : Int32).toInt = 0 := rfl; omega), fun _ => trivial, fun w9 => absurd rfl w9⟩
theorem h_X12_isName_1001  {s : Sg} (hR : Rg rM s) : OQ (f_X12_isName_1001  s) (fun r9 s9 => JM 0 s s9 ∧ (0 ≤ r9.toInt ∧ r9.toInt ≤ 1) ∧ (r9 = 0 → True) ∧ (¬ r9 = 0 → True)) := by
  have hJ : JM 0 s s := j_refl hR
  unfold f_X12_isName_1001
  refine oq_if (fun c1 => ?_) (fun c1 => ?_)
  · refine oq_if (fun c2 => ?_) (fun c2 => ?_)
    · exact ⟨hJ, (by have f0 : (0 : Int32).toInt = 0 := rfl; omega), fun _ => trivial, fun w9 => absurd rfl w9⟩
    · refine oq_b (h_X12_inWords_1001  hJ.1) (fun r1 s2 hs2 => ?_)
      have js2 : JM 0 s s2 := j_call hJ hs2.1 rfl
      refine oq_if (fun c3 => ?_) (fun c3 => ?_)
      · exact ⟨js2, (by have f0 : (1 : Int32).toInt = 1 := rfl; omega), fun w9 => absurd w9 (by decide), fun _ => trivial⟩
      · exact ⟨js2, (by have f0 : (0 : Int32).toInt = 0 := rfl; omega), fun _ => trivial, fun w9 => absurd rfl w9⟩
  · exact ⟨hJ, (by have f0 : (0 : Int32).toInt = 0 := rfl; omega), fun _ => trivial, fun w9 => absurd rfl w9⟩
theorem h_X12_nameHere_b7 {s0 : Sg} (n : Nat) : ∀ (v1 : Int64) (v3 : Int32) (s : Sg), JM 0 s0 s → 0 ≤ v3.toInt ∧ v3.toInt ≤ 900 → 900 - v3.toInt < (n : Int) → OQ (f_X12_nameHere_b7 n v1 v3 s) (fun _ s9 => JM 0 s0 s9 ∧ True) := by
  induction n with
  | zero => intro v1 v3 s hJ p_v3 hn; exact False.elim (by have g0 := hn; have g1 := p_v3; have g2 := i_rg v3; omega)
  | succ n ih =>
    intro v1 v3 s hJ p_v3 hn
    unfold f_X12_nameHere_b7
    refine oq_if (fun c1 => ?_) (fun c1 => ?_)
    · exact ⟨hJ, trivial⟩
    · refine oq_b (h_X12_byteAt _ hJ.1 (by have f0 := p_v3; have f1 := i_rg v3; have f2 := i_nle c1; have f3 := j_rd hJ 0 14 0 900 rfl; omega)) (fun r1 s2 hs2 => ?_)
      have js2 : JM 0 s0 s2 := j_call hJ hs2.1 rfl
      refine oq_n (fun x3 ex3 => ?_)
      exact ih _ _ _ js2 (by have f0 := i_add (v3) ((1 : Int32)); have f1 := p_v3; have f2 := i_rg v3; have f3 : (1 : Int32).toInt = 1 := rfl; have f4 := i_nle c1; have f5 := j_rd hJ 0 14 0 900 rfl; omega) (by have g0 := i_add (v3) ((1 : Int32)); have g1 := p_v3; have g2 := i_rg v3; have g3 : (1 : Int32).toInt = 1 := rfl; have g4 := i_nle c1; have g5 := j_rd hJ 0 14 0 900 rfl; have g6 := hn; omega)
theorem h_X12_nameHere  {s : Sg} (hR : Rg rM s) : OQ (f_X12_nameHere  s) (fun _ s9 => JM 0 s s9 ∧ True) := by
  have hJ : JM 0 s s := j_refl hR
  unfold f_X12_nameHere
  exact h_X12_nameHere_b7 BIG _ _ _ hJ (by have f0 := j_rd hJ 0 13 0 900 rfl; omega) (by have g0 : (0 : Int32).toInt = 0 := rfl; have g1 := j_rd hJ 0 13 0 900 rfl; have g2 : BIG = 4294967296 := rfl; omega)
theorem h_X12_findHere_b2 {s0 : Sg} (v1 v2 : Int32) (hv1 : 0 ≤ v1.toInt ∧ v1.toInt ≤ 116) (hv2 : 0 ≤ v2.toInt ∧ v2.toInt ≤ 8) (n : Nat) : ∀ (v3 : Int32) (s : Sg), JM 0 s0 s → 0 ≤ v3.toInt → v3.toInt ≤ 8 → 8 - v3.toInt < (n : Int) → OQ (f_X12_findHere_b2 n v1 v2 v3 s) (fun r9 s9 => JM 0 s0 s9 ∧ ((-1 ≤ r9.toInt ∧ r9.toInt ≤ 7) ∧ (r9.toInt = -1 ∨ r9.toInt < v2.toInt)) ∧ (r9 = 0 → True) ∧ (¬ r9 = 0 → True)) := by
  induction n with
  | zero => intro v3 s _ h0 h1 hn; exact False.elim (by omega)
  | succ n ih =>
    intro v3 s hJ h0 h1 hn
    unfold f_X12_findHere_b2
    refine oq_if (fun c => ?_) (fun c => ?_)
    · exact ⟨hJ, ⟨⟨by decide, by decide⟩, Or.inl rfl⟩, fun _ => trivial, fun _ => trivial⟩
    · have c' := i_nle c
      have e := i_add v1 v3
      refine oq_c (inr_of ⟨by omega, by omega⟩) ?_
      refine oq_b (h_X12_nameHere hJ.1) (fun r2 s3 h3 => ?_)
      have j3 : JM 0 s0 s3 := j_call hJ h3.1 rfl
      refine oq_if (fun c2 => ?_) (fun c2 => ?_)
      · exact ⟨j3, ⟨⟨by omega, by omega⟩, Or.inr (by omega)⟩, fun _ => trivial, fun _ => trivial⟩
      · have e3 := i_add v3 1
        have e1 : (1 : Int32).toInt = 1 := rfl
        exact ih _ _ j3 (by omega) (by omega) (by omega)
theorem h_X12_findHere (a1 : Int32) (a2 : Int32) {s : Sg} (hR : Rg rM s) (p_a1 : 0 ≤ a1.toInt ∧ a1.toInt ≤ 116) (p_a2 : 0 ≤ a2.toInt ∧ a2.toInt ≤ 8) : OQ (f_X12_findHere a1 a2 s) (fun r9 s9 => JM 0 s s9 ∧ (((-1) ≤ r9.toInt ∧ r9.toInt ≤ 7) ∧ (r9.toInt = -1 ∨ r9.toInt < a2.toInt)) ∧ (r9 = 0 → True) ∧ (¬ r9 = 0 → True)) := by
  unfold f_X12_findHere
  exact h_X12_findHere_b2 a1 a2 p_a1 p_a2 BIG 0 s (j_refl hR) (by decide) (by decide) (by decide)
theorem h_X12_newOne (a1 : Int32) (a2 : Int32) (a3 : Int32) {s : Sg} (hR : Rg rM s) (p_a1 : 0 ≤ a1.toInt ∧ a1.toInt ≤ 3) (p_a2 : 4 ≤ a2.toInt ∧ a2.toInt ≤ 8) (p_a3 : 0 ≤ a3.toInt ∧ a3.toInt ≤ 20) : OQ (f_X12_newOne a1 a2 a3 s) (fun r9 s9 => JM 476741369860 s s9 ∧ ((0 ≤ r9.toInt ∧ r9.toInt ≤ 1) ∧ (r9.toInt = 0 ∨ ¬ (s.1 1 ((1920 + a1).toNatClampNeg)).toInt = a2.toInt)) ∧ (r9 = 0 → True) ∧ (¬ r9 = 0 → True)) := by
  have hJ : JM 476741369860 s s := j_refl hR
  unfold f_X12_newOne
  refine oq_c (inr_of (by have f0 := i_add ((1920 : Int32)) (a1); have f1 : (1920 : Int32).toInt = 1920 := rfl; have f2 := p_a1; have f3 := i_rg a1; omega)) ?_
  refine oq_if (fun c1 => ?_) (fun c1 => ?_)
  · refine oq_b (h_X12_fails _ hJ.1 (by have f0 : (6 : Int32).toInt = 6 := rfl; omega)) (fun r2 s3 hs3 => ?_)
    have js3 : JM 476741369860 s s3 := j_call hJ hs3.1 rfl
    refine oq_c (b01_of (by have f0 := hs3.2.1; have f1 := i_rg r2; omega)) ?_
    exact ⟨js3, ⟨(by have f0 := hs3.2.1; have f1 := i_rg r2; omega), (by have g0 := hs3.2.1; have g1 := i_rg r2; have g2 := p_a1; have g3 := i_rg a1; have g4 := p_a2; have g5 := i_rg a2; have g6 := i_eq c1; have g7 := rd_cnt hJ ((1920 + a1).toNatClampNeg) (by have d0 := i_add ((1920 : Int32)) (a1); have d1 : (1920 : Int32).toInt = 1920 := rfl; have d2 := p_a1; have d3 := i_rg a1; have d4 := cl_nat (1920 + a1); omega); omega)⟩, fun _ => trivial, fun w9 => False.elim (by have f0 := hs3.2.1; have f1 := i_rg r2; have f2 := i_ne w9; have f3 : (0 : Int32).toInt = 0 := rfl; omega)⟩
  · refine oq_b (h_X12_ahead  hJ.1) (fun u2 s5 hs5 => ?_)
    have js5 : JM 476741369860 s s5 := j_call hJ hs5.1 rfl
    refine oq_b (h_X12_isName_1001  js5.1) (fun r6 s7 hs7 => ?_)
    have js7 : JM 476741369860 s s7 := j_call js5 hs7.1 rfl
    refine oq_if (fun c3 => ?_) (fun c3 => ?_)
    · refine oq_b (h_X12_fails _ js7.1 (by have f0 : (2 : Int32).toInt = 2 := rfl; omega)) (fun r8 s9 hs9 => ?_)
      have js9 : JM 476741369860 s s9 := j_call js7 hs9.1 rfl
      refine oq_c (b01_of (by have f0 := hs9.2.1; have f1 := i_rg r8; omega)) ?_
      exact ⟨js9, ⟨(by have f0 := hs9.2.1; have f1 := i_rg r8; omega), (by have g0 := hs9.2.1; have g1 := i_rg r8; have g2 := p_a1; have g3 := i_rg a1; have g4 := p_a2; have g5 := i_rg a2; have g6 := i_ne c1; have g7 := rd_cnt hJ ((1920 + a1).toNatClampNeg) (by have d0 := i_add ((1920 : Int32)) (a1); have d1 : (1920 : Int32).toInt = 1920 := rfl; have d2 := p_a1; have d3 := i_rg a1; have d4 := cl_nat (1920 + a1); omega); omega)⟩, fun _ => trivial, fun w9 => False.elim (by have f0 := hs9.2.1; have f1 := i_rg r8; have f2 := i_ne w9; have f3 : (0 : Int32).toInt = 0 := rfl; omega)⟩
    · refine oq_b (h_X12_findHere _ _ js7.1 (by have f0 : (96 : Int32).toInt = 96 := rfl; omega) (by have f0 := j_rd js7 1 1920 0 8 rfl; omega)) (fun r10 s11 hs11 => ?_)
      have js11 : JM 476741369860 s s11 := j_call js7 hs11.1 rfl
      refine oq_if (fun c4 => ?_) (fun c4 => ?_)
      · refine oq_b (h_X12_findHere _ _ js11.1 (by have f0 : (104 : Int32).toInt = 104 := rfl; omega) (by have f0 := j_rd js11 1 1921 0 8 rfl; omega)) (fun r12 s13 hs13 => ?_)
        have js13 : JM 476741369860 s s13 := j_call js11 hs13.1 rfl
        refine oq_if (fun c5 => ?_) (fun c5 => ?_)
        · refine oq_b (h_X12_findHere _ _ js13.1 (by have f0 : (112 : Int32).toInt = 112 := rfl; omega) (by have f0 := j_rd js13 1 1922 0 4 rfl; omega)) (fun r14 s15 hs15 => ?_)
          have js15 : JM 476741369860 s s15 := j_call js13 hs15.1 rfl
          refine oq_if (fun c6 => ?_) (fun c6 => ?_)
          · refine oq_b (h_X12_findHere _ _ js15.1 (by have f0 : (116 : Int32).toInt = 116 := rfl; omega) (by have f0 := j_rd js15 1 1923 0 4 rfl; omega)) (fun r16 s17 hs17 => ?_)
            have js17 : JM 476741369860 s s17 := j_call js15 hs17.1 rfl
            refine oq_if (fun c7 => ?_) (fun c7 => ?_)
            · refine oq_b (h_X12_nameHere  js17.1) (fun r18 s19 hs19 => ?_)
              have js19 : JM 476741369860 s s19 := j_call js17 hs19.1 rfl
              refine oq_c (inr_of (by have f0 := i_add ((96 : Int32)) (a3); have f1 := i_add (96 + a3) (s17.1 1 ((1920 + a1).toNatClampNeg)); have f2 : (96 : Int32).toInt = 96 := rfl; have f3 := p_a3; have f4 := i_rg a3; have f5 := rd_cnt js17 ((1920 + a1).toNatClampNeg) (by have d0 := i_add ((1920 : Int32)) (a1); have d1 : (1920 : Int32).toInt = 1920 := rfl; have d2 := p_a1; have d3 := i_rg a1; have d4 := cl_nat (1920 + a1); omega); omega)) ?_
              refine oq_n (fun s21 es21 => ?_)
              have js21 : JM 476741369860 s s21 := by rw [es21]; exact (j_wl js19 2 rfl rfl)
              refine oq_b (h_X12_ahead  js21.1) (fun u8 s23 hs23 => ?_)
              have js23 : JM 476741369860 s s23 := j_call js21 hs23.1 rfl
              exact ⟨js23, ⟨(by have f0 : (1 : Int32).toInt = 1 := rfl; omega), (Or.inr (fun e9 => c1 (Int32.toInt_inj.mp e9)))⟩, fun w9 => absurd w9 (by decide), fun _ => trivial⟩
            · refine oq_b (h_X12_fails _ js17.1 (by have f0 : (3 : Int32).toInt = 3 := rfl; omega)) (fun r24 s25 hs25 => ?_)
              have js25 : JM 476741369860 s s25 := j_call js17 hs25.1 rfl
              refine oq_c (b01_of (by have f0 := hs25.2.1; have f1 := i_rg r24; omega)) ?_
              exact ⟨js25, ⟨(by have f0 := hs25.2.1; have f1 := i_rg r24; omega), (by have g0 := hs25.2.1; have g1 := i_rg r24; have g2 := p_a1; have g3 := i_rg a1; have g4 := p_a2; have g5 := i_rg a2; have g6 := i_ne c1; have g7 := rd_cnt hJ ((1920 + a1).toNatClampNeg) (by have d0 := i_add ((1920 : Int32)) (a1); have d1 : (1920 : Int32).toInt = 1920 := rfl; have d2 := p_a1; have d3 := i_rg a1; have d4 := cl_nat (1920 + a1); omega); omega)⟩, fun _ => trivial, fun w9 => False.elim (by have f0 := hs25.2.1; have f1 := i_rg r24; have f2 := i_ne w9; have f3 : (0 : Int32).toInt = 0 := rfl; omega)⟩
          · refine oq_b (h_X12_fails _ js15.1 (by have f0 : (3 : Int32).toInt = 3 := rfl; omega)) (fun r26 s27 hs27 => ?_)
            have js27 : JM 476741369860 s s27 := j_call js15 hs27.1 rfl
            refine oq_c (b01_of (by have f0 := hs27.2.1; have f1 := i_rg r26; omega)) ?_
            exact ⟨js27, ⟨(by have f0 := hs27.2.1; have f1 := i_rg r26; omega), (by have g0 := hs27.2.1; have g1 := i_rg r26; have g2 := p_a1; have g3 := i_rg a1; have g4 := p_a2; have g5 := i_rg a2; have g6 := i_ne c1; have g7 := rd_cnt hJ ((1920 + a1).toNatClampNeg) (by have d0 := i_add ((1920 : Int32)) (a1); have d1 : (1920 : Int32).toInt = 1920 := rfl; have d2 := p_a1; have d3 := i_rg a1; have d4 := cl_nat (1920 + a1); omega); omega)⟩, fun _ => trivial, fun w9 => False.elim (by have f0 := hs27.2.1; have f1 := i_rg r26; have f2 := i_ne w9; have f3 : (0 : Int32).toInt = 0 := rfl; omega)⟩
        · refine oq_b (h_X12_fails _ js13.1 (by have f0 : (3 : Int32).toInt = 3 := rfl; omega)) (fun r28 s29 hs29 => ?_)
          have js29 : JM 476741369860 s s29 := j_call js13 hs29.1 rfl
          refine oq_c (b01_of (by have f0 := hs29.2.1; have f1 := i_rg r28; omega)) ?_
          exact ⟨js29, ⟨(by have f0 := hs29.2.1; have f1 := i_rg r28; omega), (by have g0 := hs29.2.1; have g1 := i_rg r28; have g2 := p_a1; have g3 := i_rg a1; have g4 := p_a2; have g5 := i_rg a2; have g6 := i_ne c1; have g7 := rd_cnt hJ ((1920 + a1).toNatClampNeg) (by have d0 := i_add ((1920 : Int32)) (a1); have d1 : (1920 : Int32).toInt = 1920 := rfl; have d2 := p_a1; have d3 := i_rg a1; have d4 := cl_nat (1920 + a1); omega); omega)⟩, fun _ => trivial, fun w9 => False.elim (by have f0 := hs29.2.1; have f1 := i_rg r28; have f2 := i_ne w9; have f3 : (0 : Int32).toInt = 0 := rfl; omega)⟩
      · refine oq_b (h_X12_fails _ js11.1 (by have f0 : (3 : Int32).toInt = 3 := rfl; omega)) (fun r30 s31 hs31 => ?_)
        have js31 : JM 476741369860 s s31 := j_call js11 hs31.1 rfl
        refine oq_c (b01_of (by have f0 := hs31.2.1; have f1 := i_rg r30; omega)) ?_
        exact ⟨js31, ⟨(by have f0 := hs31.2.1; have f1 := i_rg r30; omega), (by have g0 := hs31.2.1; have g1 := i_rg r30; have g2 := p_a1; have g3 := i_rg a1; have g4 := p_a2; have g5 := i_rg a2; have g6 := i_ne c1; have g7 := rd_cnt hJ ((1920 + a1).toNatClampNeg) (by have d0 := i_add ((1920 : Int32)) (a1); have d1 : (1920 : Int32).toInt = 1920 := rfl; have d2 := p_a1; have d3 := i_rg a1; have d4 := cl_nat (1920 + a1); omega); omega)⟩, fun _ => trivial, fun w9 => False.elim (by have f0 := hs31.2.1; have f1 := i_rg r30; have f2 := i_ne w9; have f3 : (0 : Int32).toInt = 0 := rfl; omega)⟩
theorem h_X12_isThere (a1 : Int32) {s : Sg} (hR : Rg rM s) (p_a1 : 6 ≤ a1.toInt ∧ a1.toInt ≤ 16) : OQ (f_X12_isThere a1 s) (fun r9 s9 => JM 64424509440 s s9 ∧ (0 ≤ r9.toInt ∧ r9.toInt ≤ 1) ∧ (r9 = 0 → True) ∧ (¬ r9 = 0 → True)) := by
  have hJ : JM 64424509440 s s := j_refl hR
  unfold f_X12_isThere
  refine oq_b (h_X12_inWords_1001  hJ.1) (fun r1 s2 hs2 => ?_)
  have js2 : JM 64424509440 s s2 := j_call hJ hs2.1 rfl
  refine oq_if (fun c1 => ?_) (fun c1 => ?_)
  · refine oq_b (h_X12_ahead  js2.1) (fun u2 s4 hs4 => ?_)
    have js4 : JM 64424509440 s s4 := j_call js2 hs4.1 rfl
    exact ⟨js4, (by have f0 : (1 : Int32).toInt = 1 := rfl; omega), fun w9 => absurd w9 (by decide), fun _ => trivial⟩
  · exact ⟨js2, (by have f0 : (0 : Int32).toInt = 0 := rfl; omega), fun _ => trivial, fun w9 => absurd rfl w9⟩
theorem h_X12_number (a1 : Int32) (a2 : Int32) (a3 : Int32) {s : Sg} (hR : Rg rM s) (p_a1 : 1933 ≤ a1.toInt ∧ a1.toInt ≤ 2399) (p_a2 : 0 ≤ a2.toInt ∧ a2.toInt ≤ 1) (p_a3 : 16 ≤ a3.toInt ∧ a3.toInt ≤ 2147483647) (x_1 : ((rM 1 a1.toNatClampNeg).1 ≤ a2.toInt ∧ a3.toInt ≤ (rM 1 a1.toNatClampNeg).2)) : OQ (f_X12_number a1 a2 a3 s) (fun r9 s9 => JM 5070602400912917606463554191360 s s9 ∧ (0 ≤ r9.toInt ∧ r9.toInt ≤ 1) ∧ (r9 = 0 → True) ∧ (¬ r9 = 0 → True)) := by
  have hJ : JM 5070602400912917606463554191360 s s := j_refl hR
  unfold f_X12_number
  refine oq_if (fun c1 => ?_) (fun c1 => ?_)
  · refine oq_if (fun c2 => ?_) (fun c2 => ?_)
    · refine oq_b (h_X12_fails _ hJ.1 (by have f0 : (4 : Int32).toInt = 4 := rfl; omega)) (fun r1 s2 hs2 => ?_)
      have js2 : JM 5070602400912917606463554191360 s s2 := j_call hJ hs2.1 rfl
      refine oq_c (b01_of (by have f0 := hs2.2.1; have f1 := i_rg r1; omega)) ?_
      exact ⟨js2, (by have f0 := hs2.2.1; have f1 := i_rg r1; omega), fun _ => trivial, fun w9 => False.elim (by have f0 := hs2.2.1; have f1 := i_rg r1; have f2 := i_ne w9; have f3 : (0 : Int32).toInt = 0 := rfl; omega)⟩
    · refine oq_if (fun c3 => ?_) (fun c3 => ?_)
      · refine oq_c (inr_of (by have f0 := p_a1; have f1 := i_rg a1; omega)) ?_
        refine oq_n (fun s4 es4 => ?_)
        have js4 : JM 5070602400912917606463554191360 s s4 := by rw [es4]; exact (j_wm hJ (nw_use x_1 (by have g0 := i_rg (s.1 0 15); have g1 := p_a2; have g2 := i_rg a2; have g3 := p_a3; have g4 := i_rg a3; have g5 := i_nlt c2; have g6 := i_le c3; omega)) (mk_102 (by have d0 := p_a1; have d1 := i_rg a1; have d2 := cl_nat (a1); omega) rfl))
        refine oq_b (h_X12_ahead  js4.1) (fun u4 s6 hs6 => ?_)
        have js6 : JM 5070602400912917606463554191360 s s6 := j_call js4 hs6.1 rfl
        exact ⟨js6, (by have f0 : (1 : Int32).toInt = 1 := rfl; omega), fun w9 => absurd w9 (by decide), fun _ => trivial⟩
      · refine oq_b (h_X12_fails _ hJ.1 (by have f0 : (4 : Int32).toInt = 4 := rfl; omega)) (fun r7 s8 hs8 => ?_)
        have js8 : JM 5070602400912917606463554191360 s s8 := j_call hJ hs8.1 rfl
        refine oq_c (b01_of (by have f0 := hs8.2.1; have f1 := i_rg r7; omega)) ?_
        exact ⟨js8, (by have f0 := hs8.2.1; have f1 := i_rg r7; omega), fun _ => trivial, fun w9 => False.elim (by have f0 := hs8.2.1; have f1 := i_rg r7; have f2 := i_ne w9; have f3 : (0 : Int32).toInt = 0 := rfl; omega)⟩
  · refine oq_b (h_X12_fails _ hJ.1 (by have f0 : (2 : Int32).toInt = 2 := rfl; omega)) (fun r9 s10 hs10 => ?_)
    have js10 : JM 5070602400912917606463554191360 s s10 := j_call hJ hs10.1 rfl
    refine oq_c (b01_of (by have f0 := hs10.2.1; have f1 := i_rg r9; omega)) ?_
    exact ⟨js10, (by have f0 := hs10.2.1; have f1 := i_rg r9; omega), fun _ => trivial, fun w9 => False.elim (by have f0 := hs10.2.1; have f1 := i_rg r9; have f2 := i_ne w9; have f3 : (0 : Int32).toInt = 0 := rfl; omega)⟩
theorem h_X12_aHouse_b144 {s0 : Sg}  (s : Sg) (hJ : JM 5071222579858379911230178459652 s0 s) (y_1_1920 : s.1 1 1920 = s0.1 1 1920) : OQ (f_X12_aHouse_b144  s) (fun r9 s9 => JM 5071222579858379911230178459652 s0 s9 ∧ ((0 ≤ r9.toInt ∧ r9.toInt ≤ 1) ∧ (r9.toInt = 0 ∨ (s9.1 1 1920).toInt = (s0.1 1 1920).toInt + 1)) ∧ (r9 = 0 → True) ∧ (¬ r9 = 0 → True)) := by
  unfold f_X12_aHouse_b144
  exact ⟨(j_wr 0 8 hJ rfl 80 rfl rfl (by have f0 := i_add (s.1 1 1920) ((1 : Int32)); have f1 := j_rd hJ 1 1920 0 8 rfl; have f2 : (s.1 1 1920).toInt = (s0.1 1 1920).toInt := i_eq y_1_1920; have f3 : (1 : Int32).toInt = 1 := rfl; have f4 := i_eq y_1_1920; omega)), ⟨(by have f0 : (1 : Int32).toInt = 1 := rfl; omega), (by have g0 : (1 : Int32).toInt = 1 := rfl; have g1 := i_eq y_1_1920; have g2 := j_rd ((j_wr 0 8 hJ rfl 80 rfl rfl (by have f0 := i_add (s.1 1 1920) ((1 : Int32)); have f1 := j_rd hJ 1 1920 0 8 rfl; have f2 : (s.1 1 1920).toInt = (s0.1 1 1920).toInt := i_eq y_1_1920; have f3 : (1 : Int32).toInt = 1 := rfl; have f4 := i_eq y_1_1920; omega)) : JM 5071222579858379911230178459652 s0 (pI s 1 1920 ((s.1 1 1920) + 1))) 1 1920 0 8 rfl; have g3 : ((pI s 1 1920 ((s.1 1 1920) + 1)).1 1 1920).toInt = ((s.1 1 1920) + 1).toInt := u_eq; have g4 := i_add (s.1 1 1920) ((1 : Int32)); have g5 := j_rd hJ 1 1920 0 8 rfl; have g6 : (s.1 1 1920).toInt = (s0.1 1 1920).toInt := i_eq y_1_1920; omega)⟩, fun w9 => absurd w9 (by decide), fun _ => trivial⟩
theorem h_X12_aHouse_b106 {s0 : Sg} (v1 : Int32) (v3 : Int32) (s : Sg) (hJ : JM 5071222579858379911230178459652 s0 s) (p_v1 : 0 ≤ v1.toInt ∧ v1.toInt ≤ 7) (p_v3 : 0 ≤ v3.toInt ∧ v3.toInt ≤ 1) (y_1_1920 : s.1 1 1920 = s0.1 1 1920) : OQ (f_X12_aHouse_b106 v1 v3 s) (fun r9 s9 => JM 5071222579858379911230178459652 s0 s9 ∧ ((0 ≤ r9.toInt ∧ r9.toInt ≤ 1) ∧ (r9.toInt = 0 ∨ (s9.1 1 1920).toInt = (s0.1 1 1920).toInt + 1)) ∧ (r9 = 0 → True) ∧ (¬ r9 = 0 → True)) := by
  unfold f_X12_aHouse_b106
  refine oq_b (h_X12_inWords_1001  hJ.1) (fun r10 s11 hs11 => ?_)
  have js11 : JM 5071222579858379911230178459652 s0 s11 := j_call hJ hs11.1 rfl
  refine oq_if (fun c1 => ?_) (fun c1 => ?_)
  · refine oq_if (fun c2 => ?_) (fun c2 => ?_)
    · refine oq_n (fun s12 es12 => ?_)
      have js12 : JM 5071222579858379911230178459652 s0 s12 := by rw [es12]; exact (j_wf js11 rfl 89 rfl rfl)
      refine oq_b (h_X12_ahead  js12.1) (fun u3 s14 hs14 => ?_)
      have js14 : JM 5071222579858379911230178459652 s0 s14 := j_call js12 hs14.1 rfl
      exact h_X12_aHouse_b144  _ js14 (Int32.toInt_inj.mp (by have f0 : (s14.1 1 1920).toInt = (s12.1 1 1920).toInt := j_fr hs14.1 1 1920 80 rfl rfl; have f1 : (s12.1 1 1920).toInt = (s11.1 1 1920).toInt := (by rw [es12]; exact u_ne rfl); have f2 : (s11.1 1 1920).toInt = (s.1 1 1920).toInt := j_fr hs11.1 1 1920 80 rfl rfl; have f3 : (s.1 1 1920).toInt = (s0.1 1 1920).toInt := i_eq y_1_1920; omega))
    · refine oq_b (h_X12_fails _ js11.1 (by have f0 : (5 : Int32).toInt = 5 := rfl; omega)) (fun r15 s16 hs16 => ?_)
      have js16 : JM 5071222579858379911230178459652 s0 s16 := j_call js11 hs16.1 rfl
      refine oq_c (b01_of (by have f0 := hs16.2.1; have f1 := i_rg r15; omega)) ?_
      exact ⟨js16, ⟨(by have f0 := hs16.2.1; have f1 := i_rg r15; omega), (by have g0 := hs16.2.1; have g1 := i_rg r15; have g2 := i_eq y_1_1920; have g3 := j_rd js16 1 1920 0 8 rfl; have g4 : (s16.1 1 1920).toInt = (s11.1 1 1920).toInt := j_fr hs16.1 1 1920 80 rfl rfl; have g5 := j_rd hJ 1 1920 0 8 rfl; have g6 : (s.1 1 1920).toInt = (s0.1 1 1920).toInt := i_eq y_1_1920; have g7 := j_rd js11 1 1920 0 8 rfl; have g8 : (s11.1 1 1920).toInt = (s.1 1 1920).toInt := j_fr hs11.1 1 1920 80 rfl rfl; omega)⟩, fun _ => trivial, fun w9 => False.elim (by have f0 := hs16.2.1; have f1 := i_rg r15; have f2 := i_ne w9; have f3 : (0 : Int32).toInt = 0 := rfl; omega)⟩
  · exact h_X12_aHouse_b144  _ js11 (Int32.toInt_inj.mp (by have f0 : (s11.1 1 1920).toInt = (s.1 1 1920).toInt := j_fr hs11.1 1 1920 80 rfl rfl; have f1 : (s.1 1 1920).toInt = (s0.1 1 1920).toInt := i_eq y_1_1920; omega))
theorem h_X12_aHouse_b81 {s0 : Sg} (v1 : Int32) (v2 : Int32) (v3 : Int32) (s : Sg) (hJ : JM 5071222579858379911230178459652 s0 s) (p_v1 : 0 ≤ v1.toInt ∧ v1.toInt ≤ 7) (p_v2 : 1936 ≤ v2.toInt ∧ v2.toInt ≤ 1957) (p_v3 : 0 ≤ v3.toInt ∧ v3.toInt ≤ 1) (x_1 : (1936 ≤ v2.toInt ∧ v2.toInt ≤ 1957 ∧ (v2.toInt - 1936) % 3 = 0)) (y_1_1920 : s.1 1 1920 = s0.1 1 1920) : OQ (f_X12_aHouse_b81 v1 v2 v3 s) (fun r9 s9 => JM 5071222579858379911230178459652 s0 s9 ∧ ((0 ≤ r9.toInt ∧ r9.toInt ≤ 1) ∧ (r9.toInt = 0 ∨ (s9.1 1 1920).toInt = (s0.1 1 1920).toInt + 1)) ∧ (r9 = 0 → True) ∧ (¬ r9 = 0 → True)) := by
  unfold f_X12_aHouse_b81
  refine oq_b (h_X12_isThere _ hJ.1 (by have f0 : (7 : Int32).toInt = 7 := rfl; omega)) (fun r8 s9 hs9 => ?_)
  have js9 : JM 5071222579858379911230178459652 s0 s9 := j_call hJ hs9.1 rfl
  refine oq_if (fun c1 => ?_) (fun c1 => ?_)
  · exact h_X12_aHouse_b106 _ _ _ js9 (by have f0 := p_v1; have f1 := i_rg v1; omega) (by have f0 := p_v3; have f1 := i_rg v3; omega) (Int32.toInt_inj.mp (by have f0 : (s9.1 1 1920).toInt = (s.1 1 1920).toInt := j_fr hs9.1 1 1920 80 rfl rfl; have f1 : (s.1 1 1920).toInt = (s0.1 1 1920).toInt := i_eq y_1_1920; omega))
  · refine oq_b (h_X12_number _ _ _ js9.1 (by have f0 := i_add (v2) ((1 : Int32)); have f1 := p_v2; have f2 := i_rg v2; have f3 : (1 : Int32).toInt = 1 := rfl; have f4 := x_1; omega) (by have f0 : (0 : Int32).toInt = 0 := rfl; omega) (by have f0 : (999 : Int32).toInt = 999 := rfl; omega) (nw_f (by have d0 := i_add (v2) ((1 : Int32)); have d1 := p_v2; have d2 := i_rg v2; have d3 : (1 : Int32).toInt = 1 := rfl; have d4 := x_1; have d5 := cl_nat (v2 + 1); omega) _ _)) (fun r17 s18 hs18 => ?_)
    have js18 : JM 5071222579858379911230178459652 s0 s18 := j_call js9 hs18.1 rfl
    refine oq_if (fun c2 => ?_) (fun c2 => ?_)
    · exact ⟨js18, ⟨(by have f0 : (0 : Int32).toInt = 0 := rfl; omega), (by have g0 : (0 : Int32).toInt = 0 := rfl; have g1 := i_eq y_1_1920; have g2 := j_rd js18 1 1920 0 8 rfl; have g3 : (s18.1 1 1920).toInt = (s9.1 1 1920).toInt := j_fr hs18.1 1 1920 80 rfl rfl; have g4 := j_rd hJ 1 1920 0 8 rfl; have g5 : (s.1 1 1920).toInt = (s0.1 1 1920).toInt := i_eq y_1_1920; have g6 := j_rd js9 1 1920 0 8 rfl; have g7 : (s9.1 1 1920).toInt = (s.1 1 1920).toInt := j_fr hs9.1 1 1920 80 rfl rfl; omega)⟩, fun _ => trivial, fun w9 => absurd rfl w9⟩
    · exact h_X12_aHouse_b106 _ _ _ js18 (by have f0 := p_v1; have f1 := i_rg v1; omega) (by have f0 := p_v3; have f1 := i_rg v3; omega) (Int32.toInt_inj.mp (by have f0 : (s18.1 1 1920).toInt = (s9.1 1 1920).toInt := j_fr hs18.1 1 1920 80 rfl rfl; have f1 : (s9.1 1 1920).toInt = (s.1 1 1920).toInt := j_fr hs9.1 1 1920 80 rfl rfl; have f2 : (s.1 1 1920).toInt = (s0.1 1 1920).toInt := i_eq y_1_1920; omega))
theorem h_X12_aHouse_b57 {s0 : Sg} (v1 : Int32) (v2 : Int32) (t0 : Int32) (s : Sg) (hJ : JM 5071222579858379911230178459652 s0 s) (p_v1 : 0 ≤ v1.toInt ∧ v1.toInt ≤ 7) (p_v2 : 1936 ≤ v2.toInt ∧ v2.toInt ≤ 1957) (p_t0 : 0 ≤ t0.toInt ∧ t0.toInt ≤ 1) (x_1 : (1936 ≤ v2.toInt ∧ v2.toInt ≤ 1957 ∧ (v2.toInt - 1936) % 3 = 0)) (y_1_1920 : s.1 1 1920 = s0.1 1 1920) : OQ (f_X12_aHouse_b57 v1 v2 t0 s) (fun r9 s9 => JM 5071222579858379911230178459652 s0 s9 ∧ ((0 ≤ r9.toInt ∧ r9.toInt ≤ 1) ∧ (r9.toInt = 0 ∨ (s9.1 1 1920).toInt = (s0.1 1 1920).toInt + 1)) ∧ (r9 = 0 → True) ∧ (¬ r9 = 0 → True)) := by
  unfold f_X12_aHouse_b57
  refine oq_b (h_X12_isThere _ hJ.1 (by have f0 : (6 : Int32).toInt = 6 := rfl; omega)) (fun r6 s7 hs7 => ?_)
  have js7 : JM 5071222579858379911230178459652 s0 s7 := j_call hJ hs7.1 rfl
  refine oq_if (fun c1 => ?_) (fun c1 => ?_)
  · exact h_X12_aHouse_b81 _ _ _ _ js7 (by have f0 := p_v1; have f1 := i_rg v1; omega) (by have f0 := p_v2; have f1 := i_rg v2; have f2 := x_1; omega) (by have f0 := p_t0; have f1 := i_rg t0; omega) (by have g0 := p_v2; have g1 := i_rg v2; have g2 := x_1; omega) (Int32.toInt_inj.mp (by have f0 : (s7.1 1 1920).toInt = (s.1 1 1920).toInt := j_fr hs7.1 1 1920 80 rfl rfl; have f1 : (s.1 1 1920).toInt = (s0.1 1 1920).toInt := i_eq y_1_1920; omega))
  · refine oq_b (h_X12_number _ _ _ js7.1 (by have f0 := p_v2; have f1 := i_rg v2; have f2 := x_1; omega) (by have f0 : (0 : Int32).toInt = 0 := rfl; omega) (by have f0 : (999 : Int32).toInt = 999 := rfl; omega) (nw_f (by have d0 := p_v2; have d1 := i_rg v2; have d2 := x_1; have d3 := cl_nat (v2); omega) _ _)) (fun r19 s20 hs20 => ?_)
    have js20 : JM 5071222579858379911230178459652 s0 s20 := j_call js7 hs20.1 rfl
    refine oq_if (fun c2 => ?_) (fun c2 => ?_)
    · exact ⟨js20, ⟨(by have f0 : (0 : Int32).toInt = 0 := rfl; omega), (by have g0 : (0 : Int32).toInt = 0 := rfl; have g1 := i_eq y_1_1920; have g2 := j_rd js20 1 1920 0 8 rfl; have g3 : (s20.1 1 1920).toInt = (s7.1 1 1920).toInt := j_fr hs20.1 1 1920 80 rfl rfl; have g4 := j_rd hJ 1 1920 0 8 rfl; have g5 : (s.1 1 1920).toInt = (s0.1 1 1920).toInt := i_eq y_1_1920; have g6 := j_rd js7 1 1920 0 8 rfl; have g7 : (s7.1 1 1920).toInt = (s.1 1 1920).toInt := j_fr hs7.1 1 1920 80 rfl rfl; omega)⟩, fun _ => trivial, fun w9 => absurd rfl w9⟩
    · exact h_X12_aHouse_b81 _ _ _ _ js20 (by have f0 := p_v1; have f1 := i_rg v1; omega) (by have f0 := p_v2; have f1 := i_rg v2; have f2 := x_1; omega) (by have f0 := p_t0; have f1 := i_rg t0; omega) (by have g0 := p_v2; have g1 := i_rg v2; have g2 := x_1; omega) (Int32.toInt_inj.mp (by have f0 : (s20.1 1 1920).toInt = (s7.1 1 1920).toInt := j_fr hs20.1 1 1920 80 rfl rfl; have f1 : (s7.1 1 1920).toInt = (s.1 1 1920).toInt := j_fr hs7.1 1 1920 80 rfl rfl; have f2 : (s.1 1 1920).toInt = (s0.1 1 1920).toInt := i_eq y_1_1920; omega))
theorem h_X12_aHouse_b52 {s0 : Sg} (v1 : Int32) (v2 : Int32) (s : Sg) (hJ : JM 5071222579858379911230178459652 s0 s) (p_v1 : 0 ≤ v1.toInt ∧ v1.toInt ≤ 7) (p_v2 : 1936 ≤ v2.toInt ∧ v2.toInt ≤ 1957) (x_1 : (1936 ≤ v2.toInt ∧ v2.toInt ≤ 1957 ∧ (v2.toInt - 1936) % 3 = 0)) (y_1_1920 : s.1 1 1920 = s0.1 1 1920) : OQ (f_X12_aHouse_b52 v1 v2 s) (fun r9 s9 => JM 5071222579858379911230178459652 s0 s9 ∧ ((0 ≤ r9.toInt ∧ r9.toInt ≤ 1) ∧ (r9.toInt = 0 ∨ (s9.1 1 1920).toInt = (s0.1 1 1920).toInt + 1)) ∧ (r9 = 0 → True) ∧ (¬ r9 = 0 → True)) := by
  unfold f_X12_aHouse_b52
  exact h_X12_aHouse_b57 _ _ _ _ hJ (by have f0 := p_v1; have f1 := i_rg v1; omega) (by have f0 := p_v2; have f1 := i_rg v2; have f2 := x_1; omega) (by have f0 : (1 : Int32).toInt = 1 := rfl; omega) (by have g0 := p_v2; have g1 := i_rg v2; have g2 := x_1; omega) (Int32.toInt_inj.mp (by have f0 : (s.1 1 1920).toInt = (s0.1 1 1920).toInt := i_eq y_1_1920; omega))
theorem h_X12_aHouse  {s : Sg} (hR : Rg rM s) : OQ (f_X12_aHouse  s) (fun r9 s9 => JM 5071222579858379911230178459652 s s9 ∧ ((0 ≤ r9.toInt ∧ r9.toInt ≤ 1) ∧ (r9.toInt = 0 ∨ (s9.1 1 1920).toInt = (s.1 1 1920).toInt + 1)) ∧ (r9 = 0 → True) ∧ (¬ r9 = 0 → True)) := by
  have hJ : JM 5071222579858379911230178459652 s s := j_refl hR
  unfold f_X12_aHouse
  refine oq_n (fun x1 ex1 => ?_)
  refine oq_b (h_X12_newOne _ _ _ hJ.1 (by have f0 : (0 : Int32).toInt = 0 := rfl; omega) (by have f0 : (8 : Int32).toInt = 8 := rfl; omega) (by have f0 : (0 : Int32).toInt = 0 := rfl; omega)) (fun r2 s3 hs3 => ?_)
  have js3 : JM 5071222579858379911230178459652 s s3 := j_call hJ hs3.1 rfl
  refine oq_if (fun c1 => ?_) (fun c1 => ?_)
  · exact ⟨js3, ⟨(by have f0 : (0 : Int32).toInt = 0 := rfl; omega), (by have g0 : (0 : Int32).toInt = 0 := rfl; have g1 := j_rd hJ 1 1920 0 8 rfl; have g2 := j_rd js3 1 1920 0 8 rfl; have g3 : (s3.1 1 1920).toInt = (s.1 1 1920).toInt := j_fr hs3.1 1 1920 80 rfl rfl; omega)⟩, fun _ => trivial, fun w9 => absurd rfl w9⟩
  · refine oq_b (h_X12_inWords_1001  js3.1) (fun r4 s5 hs5 => ?_)
    have js5 : JM 5071222579858379911230178459652 s s5 := j_call js3 hs5.1 rfl
    refine oq_if (fun c2 => ?_) (fun c2 => ?_)
    · exact h_X12_aHouse_b52 _ _ _ js5 (by have f0 := j_rd hJ 1 1920 0 8 rfl; omega) (by have f0 := i_eq ex1; have f1 := i_mul ((3 : Int32)) (s.1 1 1920); have f2 := i_add ((1936 : Int32)) (3 * (s.1 1 1920)); have f3 := i_rg x1; have f4 : (1936 : Int32).toInt = 1936 := rfl; have f5 : (3 : Int32).toInt = 3 := rfl; have f6 := j_rd hJ 1 1920 0 8 rfl; omega) (by have g0 := i_eq ex1; have g1 := i_mul ((3 : Int32)) (s.1 1 1920); have g2 := i_add ((1936 : Int32)) (3 * (s.1 1 1920)); have g3 := i_rg x1; have g4 : (1936 : Int32).toInt = 1936 := rfl; have g5 : (3 : Int32).toInt = 3 := rfl; have g6 := j_rd hJ 1 1920 0 8 rfl; omega) (Int32.toInt_inj.mp (by have f0 : (s5.1 1 1920).toInt = (s3.1 1 1920).toInt := j_fr hs5.1 1 1920 80 rfl rfl; have f1 : (s3.1 1 1920).toInt = (s.1 1 1920).toInt := j_fr hs3.1 1 1920 80 rfl rfl; omega))
    · refine oq_b (h_X12_inWords_1001  js5.1) (fun r21 s22 hs22 => ?_)
      have js22 : JM 5071222579858379911230178459652 s s22 := j_call js5 hs22.1 rfl
      refine oq_if (fun c3 => ?_) (fun c3 => ?_)
      · exact h_X12_aHouse_b52 _ _ _ js22 (by have f0 := j_rd hJ 1 1920 0 8 rfl; omega) (by have f0 := i_eq ex1; have f1 := i_mul ((3 : Int32)) (s.1 1 1920); have f2 := i_add ((1936 : Int32)) (3 * (s.1 1 1920)); have f3 := i_rg x1; have f4 : (1936 : Int32).toInt = 1936 := rfl; have f5 : (3 : Int32).toInt = 3 := rfl; have f6 := j_rd hJ 1 1920 0 8 rfl; omega) (by have g0 := i_eq ex1; have g1 := i_mul ((3 : Int32)) (s.1 1 1920); have g2 := i_add ((1936 : Int32)) (3 * (s.1 1 1920)); have g3 := i_rg x1; have g4 : (1936 : Int32).toInt = 1936 := rfl; have g5 : (3 : Int32).toInt = 3 := rfl; have g6 := j_rd hJ 1 1920 0 8 rfl; omega) (Int32.toInt_inj.mp (by have f0 : (s22.1 1 1920).toInt = (s5.1 1 1920).toInt := j_fr hs22.1 1 1920 80 rfl rfl; have f1 : (s5.1 1 1920).toInt = (s3.1 1 1920).toInt := j_fr hs5.1 1 1920 80 rfl rfl; have f2 : (s3.1 1 1920).toInt = (s.1 1 1920).toInt := j_fr hs3.1 1 1920 80 rfl rfl; omega))
      · exact h_X12_aHouse_b57 _ _ _ _ js22 (by have f0 := j_rd hJ 1 1920 0 8 rfl; omega) (by have f0 := i_eq ex1; have f1 := i_mul ((3 : Int32)) (s.1 1 1920); have f2 := i_add ((1936 : Int32)) (3 * (s.1 1 1920)); have f3 := i_rg x1; have f4 : (1936 : Int32).toInt = 1936 := rfl; have f5 : (3 : Int32).toInt = 3 := rfl; have f6 := j_rd hJ 1 1920 0 8 rfl; omega) (by have f0 : (0 : Int32).toInt = 0 := rfl; omega) (by have g0 := i_eq ex1; have g1 := i_mul ((3 : Int32)) (s.1 1 1920); have g2 := i_add ((1936 : Int32)) (3 * (s.1 1 1920)); have g3 := i_rg x1; have g4 : (1936 : Int32).toInt = 1936 := rfl; have g5 : (3 : Int32).toInt = 3 := rfl; have g6 := j_rd hJ 1 1920 0 8 rfl; omega) (Int32.toInt_inj.mp (by have f0 : (s22.1 1 1920).toInt = (s5.1 1 1920).toInt := j_fr hs22.1 1 1920 80 rfl rfl; have f1 : (s5.1 1 1920).toInt = (s3.1 1 1920).toInt := j_fr hs5.1 1 1920 80 rfl rfl; have f2 : (s3.1 1 1920).toInt = (s.1 1 1920).toInt := j_fr hs3.1 1 1920 80 rfl rfl; omega))
theorem h_X12_isSign (a1 : Int32) {s : Sg} (hR : Rg rM s) (p_a1 : 59 ≤ a1.toInt ∧ a1.toInt ≤ 79) : OQ (f_X12_isSign a1 s) (fun r9 s9 => JM 0 s s9 ∧ (0 ≤ r9.toInt ∧ r9.toInt ≤ 1) ∧ (r9 = 0 → True) ∧ (¬ r9 = 0 → True)) := by
  have hJ : JM 0 s s := j_refl hR
  unfold f_X12_isSign
  refine oq_if (fun c1 => ?_) (fun c1 => ?_)
  · refine oq_if (fun c2 => ?_) (fun c2 => ?_)
    · exact ⟨hJ, (by have f0 : (1 : Int32).toInt = 1 := rfl; omega), fun w9 => absurd w9 (by decide), fun _ => trivial⟩
    · exact ⟨hJ, (by have f0 : (0 : Int32).toInt = 0 := rfl; omega), fun _ => trivial, fun w9 => absurd rfl w9⟩
  · exact ⟨hJ, (by have f0 : (0 : Int32).toInt = 0 := rfl; omega), fun _ => trivial, fun w9 => absurd rfl w9⟩
theorem h_X12_wantSign (a1 : Int32) {s : Sg} (hR : Rg rM s) (p_a1 : 59 ≤ a1.toInt ∧ a1.toInt ≤ 59) : OQ (f_X12_wantSign a1 s) (fun r9 s9 => JM 476741369856 s s9 ∧ (0 ≤ r9.toInt ∧ r9.toInt ≤ 1) ∧ (r9 = 0 → True) ∧ (¬ r9 = 0 → True)) := by
  have hJ : JM 476741369856 s s := j_refl hR
  unfold f_X12_wantSign
  refine oq_b (h_X12_isSign _ hJ.1 (by have f0 := p_a1; have f1 := i_rg a1; omega)) (fun r1 s2 hs2 => ?_)
  have js2 : JM 476741369856 s s2 := j_call hJ hs2.1 rfl
  refine oq_if (fun c1 => ?_) (fun c1 => ?_)
  · refine oq_b (h_X12_fails _ js2.1 (by have f0 : (2 : Int32).toInt = 2 := rfl; omega)) (fun r3 s4 hs4 => ?_)
    have js4 : JM 476741369856 s s4 := j_call js2 hs4.1 rfl
    refine oq_c (b01_of (by have f0 := hs4.2.1; have f1 := i_rg r3; omega)) ?_
    exact ⟨js4, (by have f0 := hs4.2.1; have f1 := i_rg r3; omega), fun _ => trivial, fun w9 => False.elim (by have f0 := hs4.2.1; have f1 := i_rg r3; have f2 := i_ne w9; have f3 : (0 : Int32).toInt = 0 := rfl; omega)⟩
  · refine oq_b (h_X12_ahead  js2.1) (fun u2 s6 hs6 => ?_)
    have js6 : JM 476741369856 s s6 := j_call js2 hs6.1 rfl
    exact ⟨js6, (by have f0 : (1 : Int32).toInt = 1 := rfl; omega), fun w9 => absurd w9 (by decide), fun _ => trivial⟩
theorem h_X12_wantWord_1001 (a2 : Int32) {s : Sg} (hR : Rg rM s) (p_a2 : 8 ≤ a2.toInt ∧ a2.toInt ≤ 16) : OQ (f_X12_wantWord_1001 a2 s) (fun r9 s9 => JM 476741369856 s s9 ∧ (0 ≤ r9.toInt ∧ r9.toInt ≤ 1) ∧ (r9 = 0 → True) ∧ (¬ r9 = 0 → True)) := by
  have hJ : JM 476741369856 s s := j_refl hR
  unfold f_X12_wantWord_1001
  refine oq_b (h_X12_inWords_1001  hJ.1) (fun r1 s2 hs2 => ?_)
  have js2 : JM 476741369856 s s2 := j_call hJ hs2.1 rfl
  refine oq_if (fun c1 => ?_) (fun c1 => ?_)
  · refine oq_b (h_X12_ahead  js2.1) (fun u2 s4 hs4 => ?_)
    have js4 : JM 476741369856 s s4 := j_call js2 hs4.1 rfl
    exact ⟨js4, (by have f0 : (1 : Int32).toInt = 1 := rfl; omega), fun w9 => absurd w9 (by decide), fun _ => trivial⟩
  · refine oq_b (h_X12_fails _ js2.1 (by have f0 : (2 : Int32).toInt = 2 := rfl; omega)) (fun r5 s6 hs6 => ?_)
    have js6 : JM 476741369856 s s6 := j_call js2 hs6.1 rfl
    refine oq_c (b01_of (by have f0 := hs6.2.1; have f1 := i_rg r5; omega)) ?_
    exact ⟨js6, (by have f0 := hs6.2.1; have f1 := i_rg r5; omega), fun _ => trivial, fun w9 => False.elim (by have f0 := hs6.2.1; have f1 := i_rg r5; have f2 := i_ne w9; have f3 : (0 : Int32).toInt = 0 := rfl; omega)⟩
theorem h_X12_houseHere  {s : Sg} (hR : Rg rM s) : OQ (f_X12_houseHere  s) (fun r9 s9 => JM 0 s s9 ∧ ((-1) ≤ r9.toInt ∧ r9.toInt ≤ 7) ∧ (r9 = 0 → True) ∧ (¬ r9 = 0 → True)) := by
  have hJ : JM 0 s s := j_refl hR
  unfold f_X12_houseHere
  refine oq_b (h_X12_isName_1001  hJ.1) (fun r1 s2 hs2 => ?_)
  have js2 : JM 0 s s2 := j_call hJ hs2.1 rfl
  refine oq_if (fun c1 => ?_) (fun c1 => ?_)
  · exact ⟨js2, (by have f0 : ((-1) : Int32).toInt = (-1) := rfl; omega), fun w9 => absurd w9 (by decide), fun _ => trivial⟩
  · refine oq_b (h_X12_findHere _ _ js2.1 (by have f0 : (96 : Int32).toInt = 96 := rfl; omega) (by have f0 := j_rd js2 1 1920 0 8 rfl; omega)) (fun r3 s4 hs4 => ?_)
    have js4 : JM 0 s s4 := j_call js2 hs4.1 rfl
    exact ⟨js4, (by have f0 := hs4.2.1; have f1 := i_rg r3; have f2 := hs4.2.1.2; have f3 := j_rd js2 1 1920 0 8 rfl; omega), fun _ => trivial, fun _ => trivial⟩
theorem h_X12_oldOne (a1 : Int32) (a2 : Int32) (a3 : Int32) {s : Sg} (hR : Rg rM s) (p_a1 : 0 ≤ a1.toInt ∧ a1.toInt ≤ 96) (p_a2 : 0 ≤ a2.toInt ∧ a2.toInt ≤ 8) (p_a3 : 1933 ≤ a3.toInt ∧ a3.toInt ≤ 2399) (x_1 : ((rM 1 a3.toNatClampNeg).1 ≤ -1 ∧ a2.toInt ≤ (rM 1 a3.toNatClampNeg).2 + 1)) : OQ (f_X12_oldOne a1 a2 a3 s) (fun r9 s9 => JM 5070602400912917606463554191360 s s9 ∧ (0 ≤ r9.toInt ∧ r9.toInt ≤ 1) ∧ (r9 = 0 → True) ∧ (¬ r9 = 0 → True)) := by
  have hJ : JM 5070602400912917606463554191360 s s := j_refl hR
  unfold f_X12_oldOne
  refine oq_b (h_X12_isName_1001  hJ.1) (fun r1 s2 hs2 => ?_)
  have js2 : JM 5070602400912917606463554191360 s s2 := j_call hJ hs2.1 rfl
  refine oq_if (fun c1 => ?_) (fun c1 => ?_)
  · refine oq_b (h_X12_fails _ js2.1 (by have f0 : (2 : Int32).toInt = 2 := rfl; omega)) (fun r3 s4 hs4 => ?_)
    have js4 : JM 5070602400912917606463554191360 s s4 := j_call js2 hs4.1 rfl
    refine oq_c (b01_of (by have f0 := hs4.2.1; have f1 := i_rg r3; omega)) ?_
    exact ⟨js4, (by have f0 := hs4.2.1; have f1 := i_rg r3; omega), fun _ => trivial, fun w9 => False.elim (by have f0 := hs4.2.1; have f1 := i_rg r3; have f2 := i_ne w9; have f3 : (0 : Int32).toInt = 0 := rfl; omega)⟩
  · refine oq_b (h_X12_findHere _ _ js2.1 (by have f0 := p_a1; have f1 := i_rg a1; omega) (by have f0 := p_a2; have f1 := i_rg a2; omega)) (fun r5 s6 hs6 => ?_)
    have js6 : JM 5070602400912917606463554191360 s s6 := j_call js2 hs6.1 rfl
    refine oq_c (inr_of (by have f0 := p_a3; have f1 := i_rg a3; omega)) ?_
    refine oq_if (fun c2 => ?_) (fun c2 => ?_)
    · refine oq_b (h_X12_fails _ ((j_wm js6 (ow_use x_1 (by have g0 := hs6.2.1; have g1 := i_rg r5; have g2 := hs6.2.1.2; have g3 := p_a2; have g4 := i_rg a2; have g5 := i_eq c2; have g6 : ((pI s6 1 a3.toNatClampNeg r5).1 1 a3.toNatClampNeg).toInt = (r5).toInt := u_eq; have g7 := i_rg ((pI s6 1 a3.toNatClampNeg r5).1 1 a3.toNatClampNeg); have g8 : ((-1) : Int32).toInt = (-1) := rfl; omega)) (mk_102 (by have d0 := p_a3; have d1 := i_rg a3; have d2 := cl_nat (a3); omega) rfl)) : JM 5070602400912917606463554191360 s (pI s6 1 a3.toNatClampNeg r5)).1 (by have f0 : (3 : Int32).toInt = 3 := rfl; omega)) (fun r8 s9 hs9 => ?_)
      have js9 : JM 5070602400912917606463554191360 s s9 := j_call ((j_wm js6 (ow_use x_1 (by have g0 := hs6.2.1; have g1 := i_rg r5; have g2 := hs6.2.1.2; have g3 := p_a2; have g4 := i_rg a2; have g5 := i_eq c2; have g6 : ((pI s6 1 a3.toNatClampNeg r5).1 1 a3.toNatClampNeg).toInt = (r5).toInt := u_eq; have g7 := i_rg ((pI s6 1 a3.toNatClampNeg r5).1 1 a3.toNatClampNeg); have g8 : ((-1) : Int32).toInt = (-1) := rfl; omega)) (mk_102 (by have d0 := p_a3; have d1 := i_rg a3; have d2 := cl_nat (a3); omega) rfl)) : JM 5070602400912917606463554191360 s (pI s6 1 a3.toNatClampNeg r5)) hs9.1 rfl
      refine oq_c (b01_of (by have f0 := hs9.2.1; have f1 := i_rg r8; omega)) ?_
      exact ⟨js9, (by have f0 := hs9.2.1; have f1 := i_rg r8; omega), fun _ => trivial, fun w9 => False.elim (by have f0 := hs9.2.1; have f1 := i_rg r8; have f2 := i_ne w9; have f3 : (0 : Int32).toInt = 0 := rfl; omega)⟩
    · refine oq_b (h_X12_ahead  ((j_wm js6 (ow_use x_1 (by have g0 := hs6.2.1; have g1 := i_rg r5; have g2 := hs6.2.1.2; have g3 := p_a2; have g4 := i_rg a2; have g5 := i_ne c2; have g6 : ((pI s6 1 a3.toNatClampNeg r5).1 1 a3.toNatClampNeg).toInt = (r5).toInt := u_eq; have g7 := i_rg ((pI s6 1 a3.toNatClampNeg r5).1 1 a3.toNatClampNeg); have g8 : ((-1) : Int32).toInt = (-1) := rfl; omega)) (mk_102 (by have d0 := p_a3; have d1 := i_rg a3; have d2 := cl_nat (a3); omega) rfl)) : JM 5070602400912917606463554191360 s (pI s6 1 a3.toNatClampNeg r5)).1) (fun u3 s11 hs11 => ?_)
      have js11 : JM 5070602400912917606463554191360 s s11 := j_call ((j_wm js6 (ow_use x_1 (by have g0 := hs6.2.1; have g1 := i_rg r5; have g2 := hs6.2.1.2; have g3 := p_a2; have g4 := i_rg a2; have g5 := i_ne c2; have g6 : ((pI s6 1 a3.toNatClampNeg r5).1 1 a3.toNatClampNeg).toInt = (r5).toInt := u_eq; have g7 := i_rg ((pI s6 1 a3.toNatClampNeg r5).1 1 a3.toNatClampNeg); have g8 : ((-1) : Int32).toInt = (-1) := rfl; omega)) (mk_102 (by have d0 := p_a3; have d1 := i_rg a3; have d2 := cl_nat (a3); omega) rfl)) : JM 5070602400912917606463554191360 s (pI s6 1 a3.toNatClampNeg r5)) hs11.1 rfl
      exact ⟨js11, (by have f0 : (1 : Int32).toInt = 1 := rfl; omega), fun w9 => absurd w9 (by decide), fun _ => trivial⟩
theorem h_X12_twoHouses_b65 {s0 : Sg} (k_3 : Int32 → Int32 → Int32 → Int32 → Sg → Option (Int32 × Sg)) (m_3 : Nat) (hk_3 : ∀ (v1 : Int32) (v2 : Int32) (v3 : Int32) (v4 : Int32) (s : Sg), JM 5070602400912917606463554191360 s0 s → 1960 ≤ v1.toInt ∧ v1.toInt ≤ 2009 → 9 ≤ v2.toInt ∧ v2.toInt ≤ 12 → 0 ≤ v3.toInt ∧ v3.toInt ≤ 1 → 0 ≤ v4.toInt ∧ v4.toInt ≤ 2 → ((1960 ≤ v1.toInt ∧ v1.toInt ≤ 1995 ∧ (v1.toInt - 1960) % 5 = 0) ∨ (2000 ≤ v1.toInt ∧ v1.toInt ≤ 2009 ∧ (v1.toInt - 2000) % 3 = 0)) → 2 - v4.toInt < (m_3 : Int) → OQ (k_3 v1 v2 v3 v4 s) (fun r9 s9 => JM 5070602400912917606463554191360 s0 s9 ∧ (0 ≤ r9.toInt ∧ r9.toInt ≤ 1) ∧ (r9 = 0 → True) ∧ (¬ r9 = 0 → True))) (v1 : Int32) (v2 : Int32) (v3 : Int32) (v4 : Int32) (s : Sg) (hJ : JM 5070602400912917606463554191360 s0 s) (p_v1 : 1960 ≤ v1.toInt ∧ v1.toInt ≤ 2009) (p_v2 : 9 ≤ v2.toInt ∧ v2.toInt ≤ 12) (p_v3 : 0 ≤ v3.toInt ∧ v3.toInt ≤ 1) (p_v4 : 0 ≤ v4.toInt ∧ v4.toInt ≤ 1) (x_1 : ((1960 ≤ v1.toInt ∧ v1.toInt ≤ 1995 ∧ (v1.toInt - 1960) % 5 = 0) ∨ (2000 ≤ v1.toInt ∧ v1.toInt ≤ 2009 ∧ (v1.toInt - 2000) % 3 = 0))) (hm_3 : 2 - v4.toInt < (m_3 : Int) + 1) : OQ (f_X12_twoHouses_b65 k_3 v1 v2 v3 v4 s) (fun r9 s9 => JM 5070602400912917606463554191360 s0 s9 ∧ (0 ≤ r9.toInt ∧ r9.toInt ≤ 1) ∧ (r9 = 0 → True) ∧ (¬ r9 = 0 → True)) := by
  unfold f_X12_twoHouses_b65
  refine oq_b (h_X12_oldOne _ _ _ hJ.1 (by have f0 : (96 : Int32).toInt = 96 := rfl; omega) (by have f0 := j_rd hJ 1 1920 0 8 rfl; omega) (by have f0 := i_add (v1) (v4); have f1 := p_v1; have f2 := i_rg v1; have f3 := p_v4; have f4 := i_rg v4; have f5 := x_1; omega) (ow_end (by have d0 := i_add (v1) (v4); have d1 := p_v1; have d2 := i_rg v1; have d3 := p_v4; have d4 := i_rg v4; have d5 := x_1; have d6 := cl_nat (v1 + v4); omega) (by have g0 := j_rd hJ 1 1920 0 8 rfl; omega))) (fun r3 s4 hs4 => ?_)
  have js4 : JM 5070602400912917606463554191360 s0 s4 := j_call hJ hs4.1 rfl
  refine oq_if (fun c1 => ?_) (fun c1 => ?_)
  · exact ⟨js4, (by have f0 : (0 : Int32).toInt = 0 := rfl; omega), fun _ => trivial, fun w9 => absurd rfl w9⟩
  · refine oq_if (fun c2 => ?_) (fun c2 => ?_)
    · refine oq_b (h_X12_wantWord_1001 _ js4.1 (by have f0 := p_v2; have f1 := i_rg v2; omega)) (fun r5 s6 hs6 => ?_)
      have js6 : JM 5070602400912917606463554191360 s0 s6 := j_call js4 hs6.1 rfl
      refine oq_if (fun c3 => ?_) (fun c3 => ?_)
      · exact ⟨js6, (by have f0 : (0 : Int32).toInt = 0 := rfl; omega), fun _ => trivial, fun w9 => absurd rfl w9⟩
      · exact hk_3 _ _ _ _ _ js6 (by have f0 := p_v1; have f1 := i_rg v1; have f2 := x_1; omega) (by have f0 := p_v2; have f1 := i_rg v2; omega) (by have f0 := p_v3; have f1 := i_rg v3; omega) (by have f0 := i_add (v4) ((1 : Int32)); have f1 := p_v4; have f2 := i_rg v4; have f3 : (1 : Int32).toInt = 1 := rfl; have f4 := i_eq c2; have f5 : (0 : Int32).toInt = 0 := rfl; omega) (by have g0 := p_v1; have g1 := i_rg v1; have g2 := x_1; omega) (by have g0 := i_add (v4) ((1 : Int32)); have g1 := p_v1; have g2 := i_rg v1; have g3 := p_v2; have g4 := i_rg v2; have g5 := p_v3; have g6 := i_rg v3; have g7 := p_v4; have g8 := i_rg v4; have g9 : (1 : Int32).toInt = 1 := rfl; have g10 := x_1; have g11 := i_eq c2; have g12 : (0 : Int32).toInt = 0 := rfl; have g13 := hm_3; omega)
    · exact hk_3 _ _ _ _ _ js4 (by have f0 := p_v1; have f1 := i_rg v1; have f2 := x_1; omega) (by have f0 := p_v2; have f1 := i_rg v2; omega) (by have f0 := p_v3; have f1 := i_rg v3; omega) (by have f0 := i_add (v4) ((1 : Int32)); have f1 := p_v4; have f2 := i_rg v4; have f3 : (1 : Int32).toInt = 1 := rfl; have f4 := i_ne c2; have f5 : (0 : Int32).toInt = 0 := rfl; omega) (by have g0 := p_v1; have g1 := i_rg v1; have g2 := x_1; omega) (by have g0 := i_add (v4) ((1 : Int32)); have g1 := p_v1; have g2 := i_rg v1; have g3 := p_v2; have g4 := i_rg v2; have g5 := p_v3; have g6 := i_rg v3; have g7 := p_v4; have g8 := i_rg v4; have g9 : (1 : Int32).toInt = 1 := rfl; have g10 := x_1; have g11 := i_ne c2; have g12 : (0 : Int32).toInt = 0 := rfl; have g13 := hm_3; omega)
theorem h_X12_twoHouses_b42 {s0 : Sg} (k_3 : Int32 → Int32 → Int32 → Int32 → Sg → Option (Int32 × Sg)) (m_3 : Nat) (hk_3 : ∀ (v1 : Int32) (v2 : Int32) (v3 : Int32) (v4 : Int32) (s : Sg), JM 5070602400912917606463554191360 s0 s → 1960 ≤ v1.toInt ∧ v1.toInt ≤ 2009 → 9 ≤ v2.toInt ∧ v2.toInt ≤ 12 → 0 ≤ v3.toInt ∧ v3.toInt ≤ 1 → 0 ≤ v4.toInt ∧ v4.toInt ≤ 2 → ((1960 ≤ v1.toInt ∧ v1.toInt ≤ 1995 ∧ (v1.toInt - 1960) % 5 = 0) ∨ (2000 ≤ v1.toInt ∧ v1.toInt ≤ 2009 ∧ (v1.toInt - 2000) % 3 = 0)) → 2 - v4.toInt < (m_3 : Int) → OQ (k_3 v1 v2 v3 v4 s) (fun r9 s9 => JM 5070602400912917606463554191360 s0 s9 ∧ (0 ≤ r9.toInt ∧ r9.toInt ≤ 1) ∧ (r9 = 0 → True) ∧ (¬ r9 = 0 → True))) (v1 : Int32) (v2 : Int32) (v3 : Int32) (v4 : Int32) (v5 : Int32) (s : Sg) (hJ : JM 5070602400912917606463554191360 s0 s) (p_v1 : 1960 ≤ v1.toInt ∧ v1.toInt ≤ 2009) (p_v2 : 9 ≤ v2.toInt ∧ v2.toInt ≤ 12) (p_v3 : 0 ≤ v3.toInt ∧ v3.toInt ≤ 1) (p_v4 : 0 ≤ v4.toInt ∧ v4.toInt ≤ 1) (p_v5 : 0 ≤ v5.toInt ∧ v5.toInt ≤ 7) (x_1 : ((1960 ≤ v1.toInt ∧ v1.toInt ≤ 1995 ∧ (v1.toInt - 1960) % 5 = 0) ∨ (2000 ≤ v1.toInt ∧ v1.toInt ≤ 2009 ∧ (v1.toInt - 2000) % 3 = 0))) (hm_3 : 2 - v4.toInt < (m_3 : Int) + 1) : OQ (f_X12_twoHouses_b42 k_3 v1 v2 v3 v4 v5 s) (fun r9 s9 => JM 5070602400912917606463554191360 s0 s9 ∧ (0 ≤ r9.toInt ∧ r9.toInt ≤ 1) ∧ (r9 = 0 → True) ∧ (¬ r9 = 0 → True)) := by
  unfold f_X12_twoHouses_b42
  refine oq_if (fun c1 => ?_) (fun c1 => ?_)
  · refine oq_c (inr_of (by have f0 := p_v1; have f1 := i_rg v1; have f2 := x_1; omega)) ?_
    refine oq_if (fun c2 => ?_) (fun c2 => ?_)
    · refine oq_b (h_X12_fails _ hJ.1 (by have f0 : (5 : Int32).toInt = 5 := rfl; omega)) (fun r8 s9 hs9 => ?_)
      have js9 : JM 5070602400912917606463554191360 s0 s9 := j_call hJ hs9.1 rfl
      refine oq_c (b01_of (by have f0 := hs9.2.1; have f1 := i_rg r8; omega)) ?_
      exact ⟨js9, (by have f0 := hs9.2.1; have f1 := i_rg r8; omega), fun _ => trivial, fun w9 => False.elim (by have f0 := hs9.2.1; have f1 := i_rg r8; have f2 := i_ne w9; have f3 : (0 : Int32).toInt = 0 := rfl; omega)⟩
    · exact h_X12_twoHouses_b65 _ m_3 hk_3 _ _ _ _ _ hJ (by have f0 := p_v1; have f1 := i_rg v1; have f2 := x_1; omega) (by have f0 := p_v2; have f1 := i_rg v2; omega) (by have f0 := p_v3; have f1 := i_rg v3; omega) (by have f0 := p_v4; have f1 := i_rg v4; have f2 := i_eq c1; have f3 : (1 : Int32).toInt = 1 := rfl; omega) (by have g0 := p_v1; have g1 := i_rg v1; have g2 := x_1; omega) (by have g0 := p_v1; have g1 := i_rg v1; have g2 := p_v2; have g3 := i_rg v2; have g4 := p_v3; have g5 := i_rg v3; have g6 := p_v4; have g7 := i_rg v4; have g8 := x_1; have g9 := i_eq c1; have g10 : (1 : Int32).toInt = 1 := rfl; have g11 := hm_3; omega)
  · exact h_X12_twoHouses_b65 _ m_3 hk_3 _ _ _ _ _ hJ (by have f0 := p_v1; have f1 := i_rg v1; have f2 := x_1; omega) (by have f0 := p_v2; have f1 := i_rg v2; omega) (by have f0 := p_v3; have f1 := i_rg v3; omega) (by have f0 := p_v4; have f1 := i_rg v4; have f2 := i_ne c1; have f3 : (1 : Int32).toInt = 1 := rfl; omega) (by have g0 := p_v1; have g1 := i_rg v1; have g2 := x_1; omega) (by have g0 := p_v1; have g1 := i_rg v1; have g2 := p_v2; have g3 := i_rg v2; have g4 := p_v3; have g5 := i_rg v3; have g6 := p_v4; have g7 := i_rg v4; have g8 := x_1; have g9 := i_ne c1; have g10 : (1 : Int32).toInt = 1 := rfl; have g11 := hm_3; omega)
theorem h_X12_twoHouses_b3 {s0 : Sg} (n : Nat) : ∀ (v1 : Int32) (v2 : Int32) (v3 : Int32) (v4 : Int32) (s : Sg), JM 5070602400912917606463554191360 s0 s → 1960 ≤ v1.toInt ∧ v1.toInt ≤ 2009 → 9 ≤ v2.toInt ∧ v2.toInt ≤ 12 → 0 ≤ v3.toInt ∧ v3.toInt ≤ 1 → 0 ≤ v4.toInt ∧ v4.toInt ≤ 2 → ((1960 ≤ v1.toInt ∧ v1.toInt ≤ 1995 ∧ (v1.toInt - 1960) % 5 = 0) ∨ (2000 ≤ v1.toInt ∧ v1.toInt ≤ 2009 ∧ (v1.toInt - 2000) % 3 = 0)) → 2 - v4.toInt < (n : Int) → OQ (f_X12_twoHouses_b3 n v1 v2 v3 v4 s) (fun r9 s9 => JM 5070602400912917606463554191360 s0 s9 ∧ (0 ≤ r9.toInt ∧ r9.toInt ≤ 1) ∧ (r9 = 0 → True) ∧ (¬ r9 = 0 → True)) := by
  induction n with
  | zero => intro v1 v2 v3 v4 s hJ p_v1 p_v2 p_v3 p_v4 x_1 hn; exact False.elim (by have g0 := hn; have g1 := p_v1; have g2 := p_v2; have g3 := p_v3; have g4 := p_v4; have g5 := i_rg v1; have g6 := i_rg v2; have g7 := i_rg v3; have g8 := i_rg v4; have g9 := x_1; omega)
  | succ n ih =>
    intro v1 v2 v3 v4 s hJ p_v1 p_v2 p_v3 p_v4 x_1 hn
    unfold f_X12_twoHouses_b3
    refine oq_if (fun c1 => ?_) (fun c1 => ?_)
    · exact ⟨hJ, (by have f0 : (1 : Int32).toInt = 1 := rfl; omega), fun w9 => absurd w9 (by decide), fun _ => trivial⟩
    · refine oq_b (h_X12_houseHere  hJ.1) (fun r1 s2 hs2 => ?_)
      have js2 : JM 5070602400912917606463554191360 s0 s2 := j_call hJ hs2.1 rfl
      refine oq_if (fun c2 => ?_) (fun c2 => ?_)
      · exact h_X12_twoHouses_b65 _ n ih _ _ _ _ _ js2 (by have f0 := p_v1; have f1 := i_rg v1; have f2 := x_1; omega) (by have f0 := p_v2; have f1 := i_rg v2; omega) (by have f0 := p_v3; have f1 := i_rg v3; omega) (by have f0 := p_v4; have f1 := i_rg v4; have f2 := i_nle c1; have f3 : (2 : Int32).toInt = 2 := rfl; omega) (by have g0 := p_v1; have g1 := i_rg v1; have g2 := x_1; omega) (by have g0 := p_v1; have g1 := i_rg v1; have g2 := p_v2; have g3 := i_rg v2; have g4 := p_v3; have g5 := i_rg v3; have g6 := p_v4; have g7 := i_rg v4; have g8 := x_1; have g9 := i_nle c1; have g10 : (2 : Int32).toInt = 2 := rfl; have g11 := hn; omega)
      · refine oq_if (fun c3 => ?_) (fun c3 => ?_)
        · exact h_X12_twoHouses_b42 _ n ih _ _ _ _ _ _ js2 (by have f0 := p_v1; have f1 := i_rg v1; have f2 := x_1; omega) (by have f0 := p_v2; have f1 := i_rg v2; omega) (by have f0 := p_v3; have f1 := i_rg v3; have f2 := i_eq c3; have f3 : (0 : Int32).toInt = 0 := rfl; omega) (by have f0 := p_v4; have f1 := i_rg v4; have f2 := i_nle c1; have f3 : (2 : Int32).toInt = 2 := rfl; omega) (by have f0 := hs2.2.1; have f1 := i_rg r1; have f2 := i_ne c2; have f3 : ((-1) : Int32).toInt = (-1) := rfl; omega) (by have g0 := p_v1; have g1 := i_rg v1; have g2 := x_1; omega) (by have g0 := p_v1; have g1 := i_rg v1; have g2 := p_v2; have g3 := i_rg v2; have g4 := p_v3; have g5 := i_rg v3; have g6 := p_v4; have g7 := i_rg v4; have g8 := hs2.2.1; have g9 := i_rg r1; have g10 := x_1; have g11 := i_nle c1; have g12 := i_ne c2; have g13 := i_eq c3; have g14 : (2 : Int32).toInt = 2 := rfl; have g15 : ((-1) : Int32).toInt = (-1) := rfl; have g16 : (0 : Int32).toInt = 0 := rfl; have g17 := hn; omega)
        · refine oq_if (fun c4 => ?_) (fun c4 => ?_)
          · refine oq_b (h_X12_fails _ js2.1 (by have f0 : (5 : Int32).toInt = 5 := rfl; omega)) (fun r10 s11 hs11 => ?_)
            have js11 : JM 5070602400912917606463554191360 s0 s11 := j_call js2 hs11.1 rfl
            refine oq_c (b01_of (by have f0 := hs11.2.1; have f1 := i_rg r10; omega)) ?_
            exact ⟨js11, (by have f0 := hs11.2.1; have f1 := i_rg r10; omega), fun _ => trivial, fun w9 => False.elim (by have f0 := hs11.2.1; have f1 := i_rg r10; have f2 := i_ne w9; have f3 : (0 : Int32).toInt = 0 := rfl; omega)⟩
          · exact h_X12_twoHouses_b42 _ n ih _ _ _ _ _ _ js2 (by have f0 := p_v1; have f1 := i_rg v1; have f2 := x_1; omega) (by have f0 := p_v2; have f1 := i_rg v2; omega) (by have f0 := p_v3; have f1 := i_rg v3; have f2 := i_ne c3; have f3 : (0 : Int32).toInt = 0 := rfl; omega) (by have f0 := p_v4; have f1 := i_rg v4; have f2 := i_nle c1; have f3 : (2 : Int32).toInt = 2 := rfl; omega) (by have f0 := hs2.2.1; have f1 := i_rg r1; have f2 := i_ne c2; have f3 := i_ne c4; have f4 := i_and (r1) ((31 : Int32)) (by decide); have f5 := i_and ((s2.1 1 1929) >>> (r1 &&& 31)) ((1 : Int32)) (by decide); have f6 : ((-1) : Int32).toInt = (-1) := rfl; have f7 := i_rg (s2.1 1 1929); have f8 : (31 : Int32).toInt = 31 := rfl; have f9 : (1 : Int32).toInt = 1 := rfl; omega) (by have g0 := p_v1; have g1 := i_rg v1; have g2 := x_1; omega) (by have g0 := p_v1; have g1 := i_rg v1; have g2 := p_v2; have g3 := i_rg v2; have g4 := p_v3; have g5 := i_rg v3; have g6 := p_v4; have g7 := i_rg v4; have g8 := hs2.2.1; have g9 := i_rg r1; have g10 := x_1; have g11 := i_nle c1; have g12 := i_ne c2; have g13 := i_ne c3; have g14 := i_ne c4; have g15 := i_and (r1) ((31 : Int32)) (by decide); have g16 := i_and ((s2.1 1 1929) >>> (r1 &&& 31)) ((1 : Int32)) (by decide); have g17 : (2 : Int32).toInt = 2 := rfl; have g18 : ((-1) : Int32).toInt = (-1) := rfl; have g19 : (0 : Int32).toInt = 0 := rfl; have g20 : (s2.1 1 1929).toInt = (s.1 1 1929).toInt := j_fr hs2.1 1 1929 89 rfl rfl; have g21 := i_rg (s2.1 1 1929); have g22 : (31 : Int32).toInt = 31 := rfl; have g23 : (1 : Int32).toInt = 1 := rfl; have g24 := i_rg (s.1 1 1929); have g25 := hn; omega)
theorem h_X12_twoHouses (a1 : Int32) (a2 : Int32) (a3 : Int32) {s : Sg} (hR : Rg rM s) (p_a1 : 1960 ≤ a1.toInt ∧ a1.toInt ≤ 2009) (p_a2 : 9 ≤ a2.toInt ∧ a2.toInt ≤ 12) (p_a3 : 0 ≤ a3.toInt ∧ a3.toInt ≤ 1) (x_1 : ((1960 ≤ a1.toInt ∧ a1.toInt ≤ 1995 ∧ (a1.toInt - 1960) % 5 = 0) ∨ (2000 ≤ a1.toInt ∧ a1.toInt ≤ 2009 ∧ (a1.toInt - 2000) % 3 = 0))) : OQ (f_X12_twoHouses a1 a2 a3 s) (fun r9 s9 => JM 5070602400912917606463554191360 s s9 ∧ (0 ≤ r9.toInt ∧ r9.toInt ≤ 1) ∧ (r9 = 0 → True) ∧ (¬ r9 = 0 → True)) := by
  have hJ : JM 5070602400912917606463554191360 s s := j_refl hR
  unfold f_X12_twoHouses
  exact h_X12_twoHouses_b3 BIG _ _ _ _ _ hJ (by have f0 := p_a1; have f1 := i_rg a1; have f2 := x_1; omega) (by have f0 := p_a2; have f1 := i_rg a2; omega) (by have f0 := p_a3; have f1 := i_rg a3; omega) (by have f0 : (0 : Int32).toInt = 0 := rfl; omega) (by have g0 := p_a1; have g1 := i_rg a1; have g2 := x_1; omega) (by have g0 := p_a1; have g1 := i_rg a1; have g2 := p_a2; have g3 := i_rg a2; have g4 := p_a3; have g5 := i_rg a3; have g6 : (0 : Int32).toInt = 0 := rfl; have g7 := x_1; have g8 : BIG = 4294967296 := rfl; omega)
