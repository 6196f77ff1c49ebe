theorem h_X11_status  {s : Sg} (hR : Rg rC s) : OQ (f_X11_status  s) (fun r9 s9 => JC 0 s s9 ∧ True ∧ (r9 = 0 → True) ∧ (¬ r9 = 0 → True)) := by
  have hJ : JC 0 s s := j_refl hR
  unfold f_X11_status
  exact ⟨hJ, trivial, fun _ => trivial, fun _ => trivial⟩
theorem h_X11_top  {s : Sg} (hR : Rg rC s) : OQ (f_X11_top  s) (fun _ s9 => JC 0 s s9 ∧ True) := by
  have hJ : JC 0 s s := j_refl hR
  unfold f_X11_top
  exact ⟨hJ, trivial⟩
theorem h_X11_bottom  {s : Sg} (hR : Rg rC s) : OQ (f_X11_bottom  s) (fun _ s9 => JC 0 s s9 ∧ True) := by
  have hJ : JC 0 s s := j_refl hR
  unfold f_X11_bottom
  exact ⟨hJ, trivial⟩
theorem h_X11_within (a0 : Int32) (a1 : Int32) (a2 : Int32) {s : Sg} (hR : Rg rC s) (p_a1 : 0 ≤ a1.toInt ∧ a1.toInt ≤ 167) : OQ (f_X11_within a0 a1 a2 s) (fun r9 s9 => JC 0 s s9 ∧ (0 ≤ r9.toInt ∧ r9.toInt ≤ 1) ∧ (r9 = 0 → True) ∧ (¬ r9 = 0 → (a1).toInt ≤ (a0).toInt ∧ (a0).toInt ≤ (a2).toInt ∧ 0 ≤ (a0).toInt ∧ 0 ≤ (a2).toInt)) := by
  have hJ : JC 0 s s := j_refl hR
  unfold f_X11_within
  refine oq_if (fun c1 => ?_) (fun c1 => ?_)
  · exact ⟨hJ, (by have f0 : (0 : Int32).toInt = 0 := rfl; omega), fun _ => trivial, fun c9 => absurd rfl c9⟩
  · refine oq_if (fun c2 => ?_) (fun c2 => ?_)
    · exact ⟨hJ, (by have f0 : (0 : Int32).toInt = 0 := rfl; omega), fun _ => trivial, fun c9 => absurd rfl c9⟩
    · exact ⟨hJ, (by have f0 : (1 : Int32).toInt = 1 := rfl; omega), fun c9 => absurd c9 (by decide), fun c9 => ⟨(by have f0 := p_a1; have f1 := i_rg a1; have f2 := i_rg a0; have f3 := i_nlt c1; have f4 := i_nlt c2; have f5 := i_rg a2; omega), (by have f0 := i_rg a0; have f1 := i_rg a2; have f2 := i_nlt c1; have f3 := i_nlt c2; have f4 := p_a1; have f5 := i_rg a1; omega), (by have f0 : (0 : Int32).toInt = 0 := rfl; have f1 := i_rg a0; have f2 := i_nlt c1; have f3 := i_nlt c2; have f4 := p_a1; have f5 := i_rg a1; have f6 := i_rg a2; omega), (by have f0 : (0 : Int32).toInt = 0 := rfl; have f1 := i_rg a2; have f2 := i_nlt c2; have f3 := i_rg a0; have f4 := i_nlt c1; have f5 := p_a1; have f6 := i_rg a1; omega)⟩⟩
theorem h_X11_isTray (a0 : Int32) {s : Sg} (hR : Rg rC s) : OQ (f_X11_isTray a0 s) (fun r9 s9 => JC 0 s s9 ∧ (0 ≤ r9.toInt ∧ r9.toInt ≤ 1) ∧ (r9 = 0 → True) ∧ (¬ r9 = 0 → 0 ≤ (a0).toInt ∧ (a0).toInt ≤ 3)) := by
  have hJ : JC 0 s s := j_refl hR
  unfold f_X11_isTray
  refine oq_b (h_X11_within _ _ _ hJ.1 (by have f0 : (0 : Int32).toInt = 0 := rfl; omega)) (fun r1 s2 hs2 => ?_)
  have js2 : JC 0 s s2 := j_call hJ hs2.1 rfl
  refine oq_c (b01_of (by have f0 := hs2.2.1; have f1 := i_rg r1; omega)) ?_
  exact ⟨js2, (by have f0 := hs2.2.1; have f1 := i_rg r1; omega), fun _ => trivial, fun c9 => ⟨(by have f0 : (0 : Int32).toInt = 0 := rfl; have f1 := i_rg a0; have f2 := (hs2.2.2.2 c9).1; have f3 := (hs2.2.2.2 c9).2.1; have f4 := (hs2.2.2.2 c9).2.2.1; have f5 : (3 : Int32).toInt = 3 := rfl; omega), (by have f0 := i_rg a0; have f1 : (3 : Int32).toInt = 3 := rfl; have f2 := (hs2.2.2.2 c9).1; have f3 := (hs2.2.2.2 c9).2.1; have f4 := (hs2.2.2.2 c9).2.2.1; have f5 : (0 : Int32).toInt = 0 := rfl; omega)⟩⟩
theorem h_X11_refused (a1 : Int32) {s : Sg} (hR : Rg rC s) (p_a1 : 1 ≤ a1.toInt ∧ a1.toInt ≤ 8) : OQ (f_X11_refused a1 s) (fun r9 s9 => JC 47890485652059026823698344598447161988085597568237568 s s9 ∧ (0 ≤ r9.toInt ∧ r9.toInt ≤ 0) ∧ (r9 = 0 → True) ∧ (¬ r9 = 0 → True)) := by
  have hJ : JC 47890485652059026823698344598447161988085597568237568 s s := j_refl hR
  unfold f_X11_refused
  exact ⟨(j_wf hJ rfl 175 rfl rfl), (by have f0 : (0 : Int32).toInt = 0 := rfl; omega), fun _ => trivial, fun c9 => absurd rfl c9⟩
theorem h_X8_lay_10_b17 {s0 : Sg} (n : Nat) : ∀ (v3 : Int32) (s : Sg), JC 17408 s0 s → 0 ≤ v3.toInt ∧ v3.toInt ≤ 60 → 60 - v3.toInt < (n : Int) → OQ (f_X8_lay_10_b17 n v3 s) (fun _ s9 => JC 17408 s0 s9 ∧ True) := by
  induction n with
  | zero => intro v3 s hJ p_v3 hn; exact False.elim (by have g0 := hn; have g1 := p_v3; omega)
  | succ n ih =>
    intro v3 s hJ p_v3 hn
    unfold f_X8_lay_10_b17
    refine oq_if (fun c1 => ?_) (fun c1 => ?_)
    · exact ⟨hJ, trivial⟩
    · refine oq_c (inr_of (by have f0 := p_v3; have f1 := i_rg v3; have f2 := i_nle c1; have f3 : (60 : Int32).toInt = 60 := rfl; omega)) ?_
      exact ih _ _ (j_wl hJ 14 rfl rfl) (by have f0 := i_add (v3) ((1 : Int32)); have f1 := p_v3; have f2 := i_rg v3; have f3 : (1 : Int32).toInt = 1 := rfl; have f4 := i_nle c1; have f5 : (60 : Int32).toInt = 60 := rfl; omega) (by have g0 := i_add (v3) ((1 : Int32)); have g1 := p_v3; have g2 := i_rg v3; have g3 : (1 : Int32).toInt = 1 := rfl; have g4 := i_nle c1; have g5 : (60 : Int32).toInt = 60 := rfl; have g6 := hn; omega)
theorem h_X8_lay_10 (a1 : Int32) (a2 : Int32) {s : Sg} (hR : Rg rC s) (p_a1 : 0 ≤ a1.toInt ∧ a1.toInt ≤ 3) (p_a2 : 0 ≤ a2.toInt ∧ a2.toInt ≤ 60) : OQ (f_X8_lay_10 a1 a2 s) (fun _ s9 => JC 17408 s s9 ∧ True) := by
  have hJ : JC 17408 s s := j_refl hR
  unfold f_X8_lay_10
  refine oq_n (fun s1 es1 => ?_)
  have js1 : JC 17408 s s1 := by rw [es1]; exact (j_wr (j_wf (j_wr hJ rfl 10 rfl rfl (by have f0 : (1 : Int32).toInt = 1 := rfl; omega)) rfl 10 rfl rfl) rfl 10 rfl rfl (by have f0 := p_a2; have f1 := i_rg a2; omega))
  exact h_X8_lay_10_b17 BIG _ _ js1 (by have f0 : (0 : Int32).toInt = 0 := rfl; omega) (by have g0 : (0 : Int32).toInt = 0 := rfl; have g1 : BIG = 4294967296 := rfl; omega)
theorem h_X11_granted  {s : Sg} (hR : Rg rC s) : OQ (f_X11_granted  s) (fun r9 s9 => JC 47890485652059026823698344598447161988085597568237568 s s9 ∧ (1 ≤ r9.toInt ∧ r9.toInt ≤ 1) ∧ (r9 = 0 → True) ∧ (¬ r9 = 0 → True)) := by
  have hJ : JC 47890485652059026823698344598447161988085597568237568 s s := j_refl hR
  unfold f_X11_granted
  exact ⟨(j_wf hJ rfl 175 rfl rfl), (by have f0 : (1 : Int32).toInt = 1 := rfl; omega), fun c9 => absurd c9 (by decide), fun _ => trivial⟩
theorem h_X8_lay_11_b17 {s0 : Sg} (n : Nat) : ∀ (v3 : Int32) (s : Sg), JC 34816 s0 s → 0 ≤ v3.toInt ∧ v3.toInt ≤ 60 → 60 - v3.toInt < (n : Int) → OQ (f_X8_lay_11_b17 n v3 s) (fun _ s9 => JC 34816 s0 s9 ∧ True) := by
  induction n with
  | zero => intro v3 s hJ p_v3 hn; exact False.elim (by have g0 := hn; have g1 := p_v3; omega)
  | succ n ih =>
    intro v3 s hJ p_v3 hn
    unfold f_X8_lay_11_b17
    refine oq_if (fun c1 => ?_) (fun c1 => ?_)
    · exact ⟨hJ, trivial⟩
    · refine oq_c (inr_of (by have f0 := p_v3; have f1 := i_rg v3; have f2 := i_nle c1; have f3 : (60 : Int32).toInt = 60 := rfl; omega)) ?_
      exact ih _ _ (j_wl hJ 15 rfl rfl) (by have f0 := i_add (v3) ((1 : Int32)); have f1 := p_v3; have f2 := i_rg v3; have f3 : (1 : Int32).toInt = 1 := rfl; have f4 := i_nle c1; have f5 : (60 : Int32).toInt = 60 := rfl; omega) (by have g0 := i_add (v3) ((1 : Int32)); have g1 := p_v3; have g2 := i_rg v3; have g3 : (1 : Int32).toInt = 1 := rfl; have g4 := i_nle c1; have g5 : (60 : Int32).toInt = 60 := rfl; have g6 := hn; omega)
theorem h_X8_lay_11 (a1 : Int32) (a2 : Int32) {s : Sg} (hR : Rg rC s) (p_a1 : 0 ≤ a1.toInt ∧ a1.toInt ≤ 3) (p_a2 : 0 ≤ a2.toInt ∧ a2.toInt ≤ 60) : OQ (f_X8_lay_11 a1 a2 s) (fun _ s9 => JC 34816 s s9 ∧ True) := by
  have hJ : JC 34816 s s := j_refl hR
  unfold f_X8_lay_11
  refine oq_n (fun s1 es1 => ?_)
  have js1 : JC 34816 s s1 := by rw [es1]; exact (j_wr (j_wf (j_wr hJ rfl 11 rfl rfl (by have f0 : (1 : Int32).toInt = 1 := rfl; omega)) rfl 11 rfl rfl) rfl 11 rfl rfl (by have f0 := p_a2; have f1 := i_rg a2; omega))
  exact h_X8_lay_11_b17 BIG _ _ js1 (by have f0 : (0 : Int32).toInt = 0 := rfl; omega) (by have g0 : (0 : Int32).toInt = 0 := rfl; have g1 : BIG = 4294967296 := rfl; omega)
theorem h_X8_lay_12_b17 {s0 : Sg} (n : Nat) : ∀ (v3 : Int32) (s : Sg), JC 69632 s0 s → 0 ≤ v3.toInt ∧ v3.toInt ≤ 60 → 60 - v3.toInt < (n : Int) → OQ (f_X8_lay_12_b17 n v3 s) (fun _ s9 => JC 69632 s0 s9 ∧ True) := by
  induction n with
  | zero => intro v3 s hJ p_v3 hn; exact False.elim (by have g0 := hn; have g1 := p_v3; omega)
  | succ n ih =>
    intro v3 s hJ p_v3 hn
    unfold f_X8_lay_12_b17
    refine oq_if (fun c1 => ?_) (fun c1 => ?_)
    · exact ⟨hJ, trivial⟩
    · refine oq_c (inr_of (by have f0 := p_v3; have f1 := i_rg v3; have f2 := i_nle c1; have f3 : (60 : Int32).toInt = 60 := rfl; omega)) ?_
      exact ih _ _ (j_wl hJ 16 rfl rfl) (by have f0 := i_add (v3) ((1 : Int32)); have f1 := p_v3; have f2 := i_rg v3; have f3 : (1 : Int32).toInt = 1 := rfl; have f4 := i_nle c1; have f5 : (60 : Int32).toInt = 60 := rfl; omega) (by have g0 := i_add (v3) ((1 : Int32)); have g1 := p_v3; have g2 := i_rg v3; have g3 : (1 : Int32).toInt = 1 := rfl; have g4 := i_nle c1; have g5 : (60 : Int32).toInt = 60 := rfl; have g6 := hn; omega)
theorem h_X8_lay_12 (a1 : Int32) (a2 : Int32) {s : Sg} (hR : Rg rC s) (p_a1 : 0 ≤ a1.toInt ∧ a1.toInt ≤ 3) (p_a2 : 0 ≤ a2.toInt ∧ a2.toInt ≤ 60) : OQ (f_X8_lay_12 a1 a2 s) (fun _ s9 => JC 69632 s s9 ∧ True) := by
  have hJ : JC 69632 s s := j_refl hR
  unfold f_X8_lay_12
  refine oq_n (fun s1 es1 => ?_)
  have js1 : JC 69632 s s1 := by rw [es1]; exact (j_wr (j_wf (j_wr hJ rfl 12 rfl rfl (by have f0 : (1 : Int32).toInt = 1 := rfl; omega)) rfl 12 rfl rfl) rfl 12 rfl rfl (by have f0 := p_a2; have f1 := i_rg a2; omega))
  exact h_X8_lay_12_b17 BIG _ _ js1 (by have f0 : (0 : Int32).toInt = 0 := rfl; omega) (by have g0 : (0 : Int32).toInt = 0 := rfl; have g1 : BIG = 4294967296 := rfl; omega)
theorem h_X8_lay_13_b17 {s0 : Sg} (n : Nat) : ∀ (v3 : Int32) (s : Sg), JC 139264 s0 s → 0 ≤ v3.toInt ∧ v3.toInt ≤ 60 → 60 - v3.toInt < (n : Int) → OQ (f_X8_lay_13_b17 n v3 s) (fun _ s9 => JC 139264 s0 s9 ∧ True) := by
  induction n with
  | zero => intro v3 s hJ p_v3 hn; exact False.elim (by have g0 := hn; have g1 := p_v3; omega)
  | succ n ih =>
    intro v3 s hJ p_v3 hn
    unfold f_X8_lay_13_b17
    refine oq_if (fun c1 => ?_) (fun c1 => ?_)
    · exact ⟨hJ, trivial⟩
    · refine oq_c (inr_of (by have f0 := p_v3; have f1 := i_rg v3; have f2 := i_nle c1; have f3 : (60 : Int32).toInt = 60 := rfl; omega)) ?_
      exact ih _ _ (j_wl hJ 17 rfl rfl) (by have f0 := i_add (v3) ((1 : Int32)); have f1 := p_v3; have f2 := i_rg v3; have f3 : (1 : Int32).toInt = 1 := rfl; have f4 := i_nle c1; have f5 : (60 : Int32).toInt = 60 := rfl; omega) (by have g0 := i_add (v3) ((1 : Int32)); have g1 := p_v3; have g2 := i_rg v3; have g3 : (1 : Int32).toInt = 1 := rfl; have g4 := i_nle c1; have g5 : (60 : Int32).toInt = 60 := rfl; have g6 := hn; omega)
theorem h_X8_lay_13 (a1 : Int32) (a2 : Int32) {s : Sg} (hR : Rg rC s) (p_a1 : 0 ≤ a1.toInt ∧ a1.toInt ≤ 3) (p_a2 : 0 ≤ a2.toInt ∧ a2.toInt ≤ 60) : OQ (f_X8_lay_13 a1 a2 s) (fun _ s9 => JC 139264 s s9 ∧ True) := by
  have hJ : JC 139264 s s := j_refl hR
  unfold f_X8_lay_13
  refine oq_n (fun s1 es1 => ?_)
  have js1 : JC 139264 s s1 := by rw [es1]; exact (j_wr (j_wf (j_wr hJ rfl 13 rfl rfl (by have f0 : (1 : Int32).toInt = 1 := rfl; omega)) rfl 13 rfl rfl) rfl 13 rfl rfl (by have f0 := p_a2; have f1 := i_rg a2; omega))
  exact h_X8_lay_13_b17 BIG _ _ js1 (by have f0 : (0 : Int32).toInt = 0 := rfl; omega) (by have g0 : (0 : Int32).toInt = 0 := rfl; have g1 : BIG = 4294967296 := rfl; omega)
theorem h_X11_tray (a1 : Int32) (a2 : Int32) (a3 : Int32) {s : Sg} (hR : Rg rC s) : OQ (f_X11_tray a1 a2 a3 s) (fun r9 s9 => JC 47890485652059026823698344598447161988085597568498688 s s9 ∧ (0 ≤ r9.toInt ∧ r9.toInt ≤ 1) ∧ (r9 = 0 → True) ∧ (¬ r9 = 0 → 0 ≤ (a1).toInt ∧ (a1).toInt ≤ 3 ∧ 0 ≤ (a2).toInt ∧ (a2).toInt ≤ 3 ∧ 0 ≤ (a3).toInt ∧ (a3).toInt ≤ 60)) := by
  have hJ : JC 47890485652059026823698344598447161988085597568498688 s s := j_refl hR
  unfold f_X11_tray
  refine oq_b (h_X11_isTray _ hJ.1) (fun r1 s2 hs2 => ?_)
  have js2 : JC 47890485652059026823698344598447161988085597568498688 s s2 := j_call hJ hs2.1 rfl
  refine oq_if (fun c1 => ?_) (fun c1 => ?_)
  · refine oq_b (h_X11_refused _ js2.1 (by have f0 : (1 : Int32).toInt = 1 := rfl; omega)) (fun r3 s4 hs4 => ?_)
    have js4 : JC 47890485652059026823698344598447161988085597568498688 s s4 := j_call js2 hs4.1 rfl
    refine oq_c (b01_of (by have f0 := hs4.2.1; have f1 := i_rg r3; omega)) ?_
    exact ⟨js4, (by have f0 := hs4.2.1; have f1 := i_rg r3; omega), fun _ => trivial, fun c9 => False.elim (by have f0 := hs4.2.1; have f1 := i_rg r3; have f2 := i_ne c9; have f3 : (0 : Int32).toInt = 0 := rfl; omega)⟩
  · refine oq_b (h_X11_within _ _ _ js2.1 (by have f0 : (0 : Int32).toInt = 0 := rfl; omega)) (fun r5 s6 hs6 => ?_)
    have js6 : JC 47890485652059026823698344598447161988085597568498688 s s6 := j_call js2 hs6.1 rfl
    refine oq_if (fun c2 => ?_) (fun c2 => ?_)
    · refine oq_b (h_X11_refused _ js6.1 (by have f0 : (1 : Int32).toInt = 1 := rfl; omega)) (fun r7 s8 hs8 => ?_)
      have js8 : JC 47890485652059026823698344598447161988085597568498688 s s8 := j_call js6 hs8.1 rfl
      refine oq_c (b01_of (by have f0 := hs8.2.1; have f1 := i_rg r7; omega)) ?_
      exact ⟨js8, (by have f0 := hs8.2.1; have f1 := i_rg r7; omega), fun _ => trivial, fun c9 => False.elim (by have f0 := hs8.2.1; have f1 := i_rg r7; have f2 := i_ne c9; have f3 : (0 : Int32).toInt = 0 := rfl; omega)⟩
    · refine oq_b (h_X11_within _ _ _ js6.1 (by have f0 : (0 : Int32).toInt = 0 := rfl; omega)) (fun r9 s10 hs10 => ?_)
      have js10 : JC 47890485652059026823698344598447161988085597568498688 s s10 := j_call js6 hs10.1 rfl
      refine oq_if (fun c3 => ?_) (fun c3 => ?_)
      · refine oq_b (h_X11_refused _ js10.1 (by have f0 : (1 : Int32).toInt = 1 := rfl; omega)) (fun r11 s12 hs12 => ?_)
        have js12 : JC 47890485652059026823698344598447161988085597568498688 s s12 := j_call js10 hs12.1 rfl
        refine oq_c (b01_of (by have f0 := hs12.2.1; have f1 := i_rg r11; omega)) ?_
        exact ⟨js12, (by have f0 := hs12.2.1; have f1 := i_rg r11; omega), fun _ => trivial, fun c9 => False.elim (by have f0 := hs12.2.1; have f1 := i_rg r11; have f2 := i_ne c9; have f3 : (0 : Int32).toInt = 0 := rfl; omega)⟩
      · refine oq_c (inr_of (by have f0 := i_rg a1; have f1 := (hs2.2.2.2 c1).1; have f2 := (hs2.2.2.2 c1).2; have f3 : (0 : Int32).toInt = 0 := rfl; have f4 : (3 : Int32).toInt = 3 := rfl; omega)) ?_
        refine oq_s4 (inr_of (by have f0 := i_rg a1; have f1 := (hs2.2.2.2 c1).1; have f2 := (hs2.2.2.2 c1).2; have f3 : (0 : Int32).toInt = 0 := rfl; have f4 : (3 : Int32).toInt = 3 := rfl; omega)) (fun ek3 => ?_) (fun ek3 => ?_) (fun ek3 => ?_) (fun ek3 => ?_)
        · refine oq_b (h_X8_lay_10 _ _ js10.1 (by have f0 := i_rg a2; have f1 := (hs6.2.2.2 c2).1; have f2 := (hs6.2.2.2 c2).2.1; have f3 := (hs6.2.2.2 c2).2.2.1; have f4 : (0 : Int32).toInt = 0 := rfl; have f5 : (3 : Int32).toInt = 3 := rfl; omega) (by have f0 := i_rg a3; have f1 := (hs10.2.2.2 c3).1; have f2 := (hs10.2.2.2 c3).2.1; have f3 := (hs10.2.2.2 c3).2.2.1; have f4 : (0 : Int32).toInt = 0 := rfl; have f5 : (60 : Int32).toInt = 60 := rfl; omega)) (fun u5 s15 hs15 => ?_)
          have js15 : JC 47890485652059026823698344598447161988085597568498688 s s15 := j_call js10 hs15.1 rfl
          refine oq_b (h_X11_granted  js15.1) (fun r16 s17 hs17 => ?_)
          have js17 : JC 47890485652059026823698344598447161988085597568498688 s s17 := j_call js15 hs17.1 rfl
          refine oq_c (b01_of (by have f0 := hs17.2.1; have f1 := i_rg r16; omega)) ?_
          exact ⟨js17, (by have f0 := hs17.2.1; have f1 := i_rg r16; omega), fun c9 => False.elim (by have f0 := hs17.2.1; have f1 := i_rg r16; have f2 := i_eq c9; have f3 : (0 : Int32).toInt = 0 := rfl; omega), fun c9 => ⟨(by have f0 : (0 : Int32).toInt = 0 := rfl; have f1 := i_rg a1; have f2 := (hs2.2.2.2 c1).1; have f3 := (hs2.2.2.2 c1).2; have f4 := ek3; have f5 : (3 : Int32).toInt = 3 := rfl; omega), (by have f0 := i_rg a1; have f1 : (3 : Int32).toInt = 3 := rfl; have f2 := (hs2.2.2.2 c1).1; have f3 := (hs2.2.2.2 c1).2; have f4 := ek3; have f5 : (0 : Int32).toInt = 0 := rfl; omega), (by have f0 : (0 : Int32).toInt = 0 := rfl; have f1 := i_rg a2; have f2 := (hs6.2.2.2 c2).1; have f3 := (hs6.2.2.2 c2).2.1; have f4 := (hs6.2.2.2 c2).2.2.1; have f5 : (3 : Int32).toInt = 3 := rfl; omega), (by have f0 := i_rg a2; have f1 : (3 : Int32).toInt = 3 := rfl; have f2 := (hs6.2.2.2 c2).1; have f3 := (hs6.2.2.2 c2).2.1; have f4 := (hs6.2.2.2 c2).2.2.1; have f5 : (0 : Int32).toInt = 0 := rfl; omega), (by have f0 : (0 : Int32).toInt = 0 := rfl; have f1 := i_rg a3; have f2 := (hs10.2.2.2 c3).1; have f3 := (hs10.2.2.2 c3).2.1; have f4 := (hs10.2.2.2 c3).2.2.1; have f5 : (60 : Int32).toInt = 60 := rfl; omega), (by have f0 := i_rg a3; have f1 : (60 : Int32).toInt = 60 := rfl; have f2 := (hs10.2.2.2 c3).1; have f3 := (hs10.2.2.2 c3).2.1; have f4 := (hs10.2.2.2 c3).2.2.1; have f5 : (0 : Int32).toInt = 0 := rfl; omega)⟩⟩
        · refine oq_b (h_X8_lay_11 _ _ js10.1 (by have f0 := i_rg a2; have f1 := (hs6.2.2.2 c2).1; have f2 := (hs6.2.2.2 c2).2.1; have f3 := (hs6.2.2.2 c2).2.2.1; have f4 : (0 : Int32).toInt = 0 := rfl; have f5 : (3 : Int32).toInt = 3 := rfl; omega) (by have f0 := i_rg a3; have f1 := (hs10.2.2.2 c3).1; have f2 := (hs10.2.2.2 c3).2.1; have f3 := (hs10.2.2.2 c3).2.2.1; have f4 : (0 : Int32).toInt = 0 := rfl; have f5 : (60 : Int32).toInt = 60 := rfl; omega)) (fun u6 s19 hs19 => ?_)
          have js19 : JC 47890485652059026823698344598447161988085597568498688 s s19 := j_call js10 hs19.1 rfl
          refine oq_b (h_X11_granted  js19.1) (fun r20 s21 hs21 => ?_)
          have js21 : JC 47890485652059026823698344598447161988085597568498688 s s21 := j_call js19 hs21.1 rfl
          refine oq_c (b01_of (by have f0 := hs21.2.1; have f1 := i_rg r20; omega)) ?_
          exact ⟨js21, (by have f0 := hs21.2.1; have f1 := i_rg r20; omega), fun c9 => False.elim (by have f0 := hs21.2.1; have f1 := i_rg r20; have f2 := i_eq c9; have f3 : (0 : Int32).toInt = 0 := rfl; omega), fun c9 => ⟨(by have f0 : (0 : Int32).toInt = 0 := rfl; have f1 := i_rg a1; have f2 := (hs2.2.2.2 c1).1; have f3 := (hs2.2.2.2 c1).2; have f4 := ek3; have f5 : (3 : Int32).toInt = 3 := rfl; have f6 : (1 : Int32).toInt = 1 := rfl; omega), (by have f0 := i_rg a1; have f1 : (3 : Int32).toInt = 3 := rfl; have f2 := (hs2.2.2.2 c1).1; have f3 := (hs2.2.2.2 c1).2; have f4 := ek3; have f5 : (0 : Int32).toInt = 0 := rfl; have f6 : (1 : Int32).toInt = 1 := rfl; omega), (by have f0 : (0 : Int32).toInt = 0 := rfl; have f1 := i_rg a2; have f2 := (hs6.2.2.2 c2).1; have f3 := (hs6.2.2.2 c2).2.1; have f4 := (hs6.2.2.2 c2).2.2.1; have f5 : (3 : Int32).toInt = 3 := rfl; omega), (by have f0 := i_rg a2; have f1 : (3 : Int32).toInt = 3 := rfl; have f2 := (hs6.2.2.2 c2).1; have f3 := (hs6.2.2.2 c2).2.1; have f4 := (hs6.2.2.2 c2).2.2.1; have f5 : (0 : Int32).toInt = 0 := rfl; omega), (by have f0 : (0 : Int32).toInt = 0 := rfl; have f1 := i_rg a3; have f2 := (hs10.2.2.2 c3).1; have f3 := (hs10.2.2.2 c3).2.1; have f4 := (hs10.2.2.2 c3).2.2.1; have f5 : (60 : Int32).toInt = 60 := rfl; omega), (by have f0 := i_rg a3; have f1 : (60 : Int32).toInt = 60 := rfl; have f2 := (hs10.2.2.2 c3).1; have f3 := (hs10.2.2.2 c3).2.1; have f4 := (hs10.2.2.2 c3).2.2.1; have f5 : (0 : Int32).toInt = 0 := rfl; omega)⟩⟩
        · refine oq_b (h_X8_lay_12 _ _ js10.1 (by have f0 := i_rg a2; have f1 := (hs6.2.2.2 c2).1; have f2 := (hs6.2.2.2 c2).2.1; have f3 := (hs6.2.2.2 c2).2.2.1; have f4 : (0 : Int32).toInt = 0 := rfl; have f5 : (3 : Int32).toInt = 3 := rfl; omega) (by have f0 := i_rg a3; have f1 := (hs10.2.2.2 c3).1; have f2 := (hs10.2.2.2 c3).2.1; have f3 := (hs10.2.2.2 c3).2.2.1; have f4 : (0 : Int32).toInt = 0 := rfl; have f5 : (60 : Int32).toInt = 60 := rfl; omega)) (fun u7 s23 hs23 => ?_)
          have js23 : JC 47890485652059026823698344598447161988085597568498688 s s23 := j_call js10 hs23.1 rfl
          refine oq_b (h_X11_granted  js23.1) (fun r24 s25 hs25 => ?_)
          have js25 : JC 47890485652059026823698344598447161988085597568498688 s s25 := j_call js23 hs25.1 rfl
          refine oq_c (b01_of (by have f0 := hs25.2.1; have f1 := i_rg r24; omega)) ?_
          exact ⟨js25, (by have f0 := hs25.2.1; have f1 := i_rg r24; omega), fun c9 => False.elim (by have f0 := hs25.2.1; have f1 := i_rg r24; have f2 := i_eq c9; have f3 : (0 : Int32).toInt = 0 := rfl; omega), fun c9 => ⟨(by have f0 : (0 : Int32).toInt = 0 := rfl; have f1 := i_rg a1; have f2 := (hs2.2.2.2 c1).1; have f3 := (hs2.2.2.2 c1).2; have f4 := ek3; have f5 : (3 : Int32).toInt = 3 := rfl; have f6 : (2 : Int32).toInt = 2 := rfl; omega), (by have f0 := i_rg a1; have f1 : (3 : Int32).toInt = 3 := rfl; have f2 := (hs2.2.2.2 c1).1; have f3 := (hs2.2.2.2 c1).2; have f4 := ek3; have f5 : (0 : Int32).toInt = 0 := rfl; have f6 : (2 : Int32).toInt = 2 := rfl; omega), (by have f0 : (0 : Int32).toInt = 0 := rfl; have f1 := i_rg a2; have f2 := (hs6.2.2.2 c2).1; have f3 := (hs6.2.2.2 c2).2.1; have f4 := (hs6.2.2.2 c2).2.2.1; have f5 : (3 : Int32).toInt = 3 := rfl; omega), (by have f0 := i_rg a2; have f1 : (3 : Int32).toInt = 3 := rfl; have f2 := (hs6.2.2.2 c2).1; have f3 := (hs6.2.2.2 c2).2.1; have f4 := (hs6.2.2.2 c2).2.2.1; have f5 : (0 : Int32).toInt = 0 := rfl; omega), (by have f0 : (0 : Int32).toInt = 0 := rfl; have f1 := i_rg a3; have f2 := (hs10.2.2.2 c3).1; have f3 := (hs10.2.2.2 c3).2.1; have f4 := (hs10.2.2.2 c3).2.2.1; have f5 : (60 : Int32).toInt = 60 := rfl; omega), (by have f0 := i_rg a3; have f1 : (60 : Int32).toInt = 60 := rfl; have f2 := (hs10.2.2.2 c3).1; have f3 := (hs10.2.2.2 c3).2.1; have f4 := (hs10.2.2.2 c3).2.2.1; have f5 : (0 : Int32).toInt = 0 := rfl; omega)⟩⟩
        · refine oq_b (h_X8_lay_13 _ _ js10.1 (by have f0 := i_rg a2; have f1 := (hs6.2.2.2 c2).1; have f2 := (hs6.2.2.2 c2).2.1; have f3 := (hs6.2.2.2 c2).2.2.1; have f4 : (0 : Int32).toInt = 0 := rfl; have f5 : (3 : Int32).toInt = 3 := rfl; omega) (by have f0 := i_rg a3; have f1 := (hs10.2.2.2 c3).1; have f2 := (hs10.2.2.2 c3).2.1; have f3 := (hs10.2.2.2 c3).2.2.1; have f4 : (0 : Int32).toInt = 0 := rfl; have f5 : (60 : Int32).toInt = 60 := rfl; omega)) (fun u8 s27 hs27 => ?_)
          have js27 : JC 47890485652059026823698344598447161988085597568498688 s s27 := j_call js10 hs27.1 rfl
          refine oq_b (h_X11_granted  js27.1) (fun r28 s29 hs29 => ?_)
          have js29 : JC 47890485652059026823698344598447161988085597568498688 s s29 := j_call js27 hs29.1 rfl
          refine oq_c (b01_of (by have f0 := hs29.2.1; have f1 := i_rg r28; omega)) ?_
          exact ⟨js29, (by have f0 := hs29.2.1; have f1 := i_rg r28; omega), fun c9 => False.elim (by have f0 := hs29.2.1; have f1 := i_rg r28; have f2 := i_eq c9; have f3 : (0 : Int32).toInt = 0 := rfl; omega), fun c9 => ⟨(by have f0 : (0 : Int32).toInt = 0 := rfl; have f1 := i_rg a1; have f2 := (hs2.2.2.2 c1).1; have f3 := (hs2.2.2.2 c1).2; have f4 := ek3; have f5 : (3 : Int32).toInt = 3 := rfl; omega), (by have f0 := i_rg a1; have f1 : (3 : Int32).toInt = 3 := rfl; have f2 := (hs2.2.2.2 c1).1; have f3 := (hs2.2.2.2 c1).2; have f4 := ek3; have f5 : (0 : Int32).toInt = 0 := rfl; omega), (by have f0 : (0 : Int32).toInt = 0 := rfl; have f1 := i_rg a2; have f2 := (hs6.2.2.2 c2).1; have f3 := (hs6.2.2.2 c2).2.1; have f4 := (hs6.2.2.2 c2).2.2.1; have f5 : (3 : Int32).toInt = 3 := rfl; omega), (by have f0 := i_rg a2; have f1 : (3 : Int32).toInt = 3 := rfl; have f2 := (hs6.2.2.2 c2).1; have f3 := (hs6.2.2.2 c2).2.1; have f4 := (hs6.2.2.2 c2).2.2.1; have f5 : (0 : Int32).toInt = 0 := rfl; omega), (by have f0 : (0 : Int32).toInt = 0 := rfl; have f1 := i_rg a3; have f2 := (hs10.2.2.2 c3).1; have f3 := (hs10.2.2.2 c3).2.1; have f4 := (hs10.2.2.2 c3).2.2.1; have f5 : (60 : Int32).toInt = 60 := rfl; omega), (by have f0 := i_rg a3; have f1 : (60 : Int32).toInt = 60 := rfl; have f2 := (hs10.2.2.2 c3).1; have f3 := (hs10.2.2.2 c3).2.1; have f4 := (hs10.2.2.2 c3).2.2.1; have f5 : (0 : Int32).toInt = 0 := rfl; omega)⟩⟩
theorem h_X11_whyNoPlace (a1 : Int32) (a2 : Int32) {s : Sg} (hR : Rg rC s) : OQ (f_X11_whyNoPlace a1 a2 s) (fun r9 s9 => JC 0 s s9 ∧ (0 ≤ r9.toInt ∧ r9.toInt ≤ 3) ∧ (r9 = 0 → 0 ≤ (a1).toInt ∧ (a1).toInt ≤ 3 ∧ 0 ≤ (a2).toInt ∧ (a2).toInt ≤ 59) ∧ (¬ r9 = 0 → True)) := by
  have hJ : JC 0 s s := j_refl hR
  unfold f_X11_whyNoPlace
  refine oq_b (h_X11_isTray _ hJ.1) (fun r1 s2 hs2 => ?_)
  have js2 : JC 0 s s2 := j_call hJ hs2.1 rfl
  refine oq_if (fun c1 => ?_) (fun c1 => ?_)
  · exact ⟨js2, (by have f0 : (1 : Int32).toInt = 1 := rfl; omega), fun c9 => absurd c9 (by decide), fun _ => trivial⟩
  · refine oq_c (inr_of (by have f0 := i_rg a1; have f1 := (hs2.2.2.2 c1).1; have f2 := (hs2.2.2.2 c1).2; have f3 : (0 : Int32).toInt = 0 := rfl; have f4 : (3 : Int32).toInt = 3 := rfl; omega)) ?_
    refine oq_s4 (inr_of (by have f0 := i_rg a1; have f1 := (hs2.2.2.2 c1).1; have f2 := (hs2.2.2.2 c1).2; have f3 : (0 : Int32).toInt = 0 := rfl; have f4 : (3 : Int32).toInt = 3 := rfl; omega)) (fun ek1 => ?_) (fun ek1 => ?_) (fun ek1 => ?_) (fun ek1 => ?_)
    · refine oq_if (fun c3 => ?_) (fun c3 => ?_)
      · exact ⟨js2, (by have f0 : (2 : Int32).toInt = 2 := rfl; omega), fun c9 => absurd c9 (by decide), fun _ => trivial⟩
      · refine oq_b (h_X11_within _ _ _ js2.1 (by have f0 : (0 : Int32).toInt = 0 := rfl; omega)) (fun r4 s5 hs5 => ?_)
        have js5 : JC 0 s s5 := j_call js2 hs5.1 rfl
        refine oq_if (fun c4 => ?_) (fun c4 => ?_)
        · exact ⟨js5, (by have f0 : (3 : Int32).toInt = 3 := rfl; omega), fun c9 => absurd c9 (by decide), fun _ => trivial⟩
        · exact ⟨js5, (by have f0 : (0 : Int32).toInt = 0 := rfl; omega), fun c9 => ⟨(by have f0 : (0 : Int32).toInt = 0 := rfl; have f1 := i_rg a1; have f2 := (hs2.2.2.2 c1).1; have f3 := (hs2.2.2.2 c1).2; have f4 := ek1; have f5 : (3 : Int32).toInt = 3 := rfl; omega), (by have f0 := i_rg a1; have f1 : (3 : Int32).toInt = 3 := rfl; have f2 := (hs2.2.2.2 c1).1; have f3 := (hs2.2.2.2 c1).2; have f4 := ek1; have f5 : (0 : Int32).toInt = 0 := rfl; omega), (by have f0 : (0 : Int32).toInt = 0 := rfl; have f1 := i_rg a2; have f2 := (hs5.2.2.2 c4).1; have f3 := (hs5.2.2.2 c4).2.1; have f4 := i_sub (s2.1 10 3) ((1 : Int32)); have f5 := (hs5.2.2.2 c4).2.2.1; have f6 := (hs5.2.2.2 c4).2.2.2; have f7 := j_rd js2 10 3 rfl; have f8 : (1 : Int32).toInt = 1 := rfl; omega), (by have f0 := i_rg a2; have f1 : (59 : Int32).toInt = 59 := rfl; have f2 := (hs5.2.2.2 c4).1; have f3 := (hs5.2.2.2 c4).2.1; have f4 := i_sub (s2.1 10 3) ((1 : Int32)); have f5 := (hs5.2.2.2 c4).2.2.1; have f6 := (hs5.2.2.2 c4).2.2.2; have f7 : (0 : Int32).toInt = 0 := rfl; have f8 := j_rd js2 10 3 rfl; have f9 : (1 : Int32).toInt = 1 := rfl; omega)⟩, fun c9 => absurd rfl c9⟩
    · refine oq_if (fun c5 => ?_) (fun c5 => ?_)
      · exact ⟨js2, (by have f0 : (2 : Int32).toInt = 2 := rfl; omega), fun c9 => absurd c9 (by decide), fun _ => trivial⟩
      · refine oq_b (h_X11_within _ _ _ js2.1 (by have f0 : (0 : Int32).toInt = 0 := rfl; omega)) (fun r6 s7 hs7 => ?_)
        have js7 : JC 0 s s7 := j_call js2 hs7.1 rfl
        refine oq_if (fun c6 => ?_) (fun c6 => ?_)
        · exact ⟨js7, (by have f0 : (3 : Int32).toInt = 3 := rfl; omega), fun c9 => absurd c9 (by decide), fun _ => trivial⟩
        · exact ⟨js7, (by have f0 : (0 : Int32).toInt = 0 := rfl; omega), fun c9 => ⟨(by have f0 : (0 : Int32).toInt = 0 := rfl; have f1 := i_rg a1; have f2 := (hs2.2.2.2 c1).1; have f3 := (hs2.2.2.2 c1).2; have f4 := ek1; have f5 : (3 : Int32).toInt = 3 := rfl; have f6 : (1 : Int32).toInt = 1 := rfl; omega), (by have f0 := i_rg a1; have f1 : (3 : Int32).toInt = 3 := rfl; have f2 := (hs2.2.2.2 c1).1; have f3 := (hs2.2.2.2 c1).2; have f4 := ek1; have f5 : (0 : Int32).toInt = 0 := rfl; have f6 : (1 : Int32).toInt = 1 := rfl; omega), (by have f0 : (0 : Int32).toInt = 0 := rfl; have f1 := i_rg a2; have f2 := (hs7.2.2.2 c6).1; have f3 := (hs7.2.2.2 c6).2.1; have f4 := i_sub (s2.1 11 3) ((1 : Int32)); have f5 := (hs7.2.2.2 c6).2.2.1; have f6 := (hs7.2.2.2 c6).2.2.2; have f7 := j_rd js2 11 3 rfl; have f8 : (1 : Int32).toInt = 1 := rfl; omega), (by have f0 := i_rg a2; have f1 : (59 : Int32).toInt = 59 := rfl; have f2 := (hs7.2.2.2 c6).1; have f3 := (hs7.2.2.2 c6).2.1; have f4 := i_sub (s2.1 11 3) ((1 : Int32)); have f5 := (hs7.2.2.2 c6).2.2.1; have f6 := (hs7.2.2.2 c6).2.2.2; have f7 : (0 : Int32).toInt = 0 := rfl; have f8 := j_rd js2 11 3 rfl; have f9 : (1 : Int32).toInt = 1 := rfl; omega)⟩, fun c9 => absurd rfl c9⟩
    · refine oq_if (fun c7 => ?_) (fun c7 => ?_)
      · exact ⟨js2, (by have f0 : (2 : Int32).toInt = 2 := rfl; omega), fun c9 => absurd c9 (by decide), fun _ => trivial⟩
      · refine oq_b (h_X11_within _ _ _ js2.1 (by have f0 : (0 : Int32).toInt = 0 := rfl; omega)) (fun r8 s9 hs9 => ?_)
        have js9 : JC 0 s s9 := j_call js2 hs9.1 rfl
        refine oq_if (fun c8 => ?_) (fun c8 => ?_)
        · exact ⟨js9, (by have f0 : (3 : Int32).toInt = 3 := rfl; omega), fun c9 => absurd c9 (by decide), fun _ => trivial⟩
        · exact ⟨js9, (by have f0 : (0 : Int32).toInt = 0 := rfl; omega), fun c9 => ⟨(by have f0 : (0 : Int32).toInt = 0 := rfl; have f1 := i_rg a1; have f2 := (hs2.2.2.2 c1).1; have f3 := (hs2.2.2.2 c1).2; have f4 := ek1; have f5 : (3 : Int32).toInt = 3 := rfl; have f6 : (2 : Int32).toInt = 2 := rfl; omega), (by have f0 := i_rg a1; have f1 : (3 : Int32).toInt = 3 := rfl; have f2 := (hs2.2.2.2 c1).1; have f3 := (hs2.2.2.2 c1).2; have f4 := ek1; have f5 : (0 : Int32).toInt = 0 := rfl; have f6 : (2 : Int32).toInt = 2 := rfl; omega), (by have f0 : (0 : Int32).toInt = 0 := rfl; have f1 := i_rg a2; have f2 := (hs9.2.2.2 c8).1; have f3 := (hs9.2.2.2 c8).2.1; have f4 := i_sub (s2.1 12 3) ((1 : Int32)); have f5 := (hs9.2.2.2 c8).2.2.1; have f6 := (hs9.2.2.2 c8).2.2.2; have f7 := j_rd js2 12 3 rfl; have f8 : (1 : Int32).toInt = 1 := rfl; omega), (by have f0 := i_rg a2; have f1 : (59 : Int32).toInt = 59 := rfl; have f2 := (hs9.2.2.2 c8).1; have f3 := (hs9.2.2.2 c8).2.1; have f4 := i_sub (s2.1 12 3) ((1 : Int32)); have f5 := (hs9.2.2.2 c8).2.2.1; have f6 := (hs9.2.2.2 c8).2.2.2; have f7 : (0 : Int32).toInt = 0 := rfl; have f8 := j_rd js2 12 3 rfl; have f9 : (1 : Int32).toInt = 1 := rfl; omega)⟩, fun c9 => absurd rfl c9⟩
    · refine oq_if (fun c9 => ?_) (fun c9 => ?_)
      · exact ⟨js2, (by have f0 : (2 : Int32).toInt = 2 := rfl; omega), fun c9 => absurd c9 (by decide), fun _ => trivial⟩
      · refine oq_b (h_X11_within _ _ _ js2.1 (by have f0 : (0 : Int32).toInt = 0 := rfl; omega)) (fun r10 s11 hs11 => ?_)
        have js11 : JC 0 s s11 := j_call js2 hs11.1 rfl
        refine oq_if (fun c10 => ?_) (fun c10 => ?_)
        · exact ⟨js11, (by have f0 : (3 : Int32).toInt = 3 := rfl; omega), fun c9 => absurd c9 (by decide), fun _ => trivial⟩
        · exact ⟨js11, (by have f0 : (0 : Int32).toInt = 0 := rfl; omega), fun c9 => ⟨(by have f0 : (0 : Int32).toInt = 0 := rfl; have f1 := i_rg a1; have f2 := (hs2.2.2.2 c1).1; have f3 := (hs2.2.2.2 c1).2; have f4 := ek1; have f5 : (3 : Int32).toInt = 3 := rfl; omega), (by have f0 := i_rg a1; have f1 : (3 : Int32).toInt = 3 := rfl; have f2 := (hs2.2.2.2 c1).1; have f3 := (hs2.2.2.2 c1).2; have f4 := ek1; have f5 : (0 : Int32).toInt = 0 := rfl; omega), (by have f0 : (0 : Int32).toInt = 0 := rfl; have f1 := i_rg a2; have f2 := (hs11.2.2.2 c10).1; have f3 := (hs11.2.2.2 c10).2.1; have f4 := i_sub (s2.1 13 3) ((1 : Int32)); have f5 := (hs11.2.2.2 c10).2.2.1; have f6 := (hs11.2.2.2 c10).2.2.2; have f7 := j_rd js2 13 3 rfl; have f8 : (1 : Int32).toInt = 1 := rfl; omega), (by have f0 := i_rg a2; have f1 : (59 : Int32).toInt = 59 := rfl; have f2 := (hs11.2.2.2 c10).1; have f3 := (hs11.2.2.2 c10).2.1; have f4 := i_sub (s2.1 13 3) ((1 : Int32)); have f5 := (hs11.2.2.2 c10).2.2.1; have f6 := (hs11.2.2.2 c10).2.2.2; have f7 : (0 : Int32).toInt = 0 := rfl; have f8 := j_rd js2 13 3 rfl; have f9 : (1 : Int32).toInt = 1 := rfl; omega)⟩, fun c9 => absurd rfl c9⟩
theorem h_X8_cut_10 (a1 : Int64) {s : Sg} (hR : Rg rC s) : OQ (f_X8_cut_10 a1 s) (fun _ s9 => JC 0 s s9 ∧ True) := by
  have hJ : JC 0 s s := j_refl hR
  unfold f_X8_cut_10
  refine oq_if (fun c1 => ?_) (fun c1 => ?_)
  · exact ⟨hJ, trivial⟩
  · refine oq_if (fun c2 => ?_) (fun c2 => ?_)
    · exact ⟨hJ, trivial⟩
    · refine oq_if (fun c3 => ?_) (fun c3 => ?_)
      · exact ⟨hJ, trivial⟩
      · exact ⟨hJ, trivial⟩
theorem h_X8_put_10 (a1 : Int32) (a2 : Int64) {s : Sg} (hR : Rg rC s) (p_a1 : 0 ≤ a1.toInt ∧ a1.toInt ≤ 59) : OQ (f_X8_put_10 a1 a2 s) (fun _ s9 => JC 16384 s s9 ∧ True) := by
  have hJ : JC 16384 s s := j_refl hR
  unfold f_X8_put_10
  refine oq_b (h_X8_cut_10 _ hJ.1) (fun r1 s2 hs2 => ?_)
  have js2 : JC 16384 s s2 := j_call hJ hs2.1 rfl
  refine oq_c (inr_of (by have f0 := p_a1; have f1 := i_rg a1; omega)) ?_
  exact ⟨(j_wl js2 14 rfl rfl), trivial⟩
theorem h_X8_cut_11 (a1 : Int64) {s : Sg} (hR : Rg rC s) : OQ (f_X8_cut_11 a1 s) (fun _ s9 => JC 0 s s9 ∧ True) := by
  have hJ : JC 0 s s := j_refl hR
  unfold f_X8_cut_11
  refine oq_if (fun c1 => ?_) (fun c1 => ?_)
  · exact ⟨hJ, trivial⟩
  · refine oq_if (fun c2 => ?_) (fun c2 => ?_)
    · exact ⟨hJ, trivial⟩
    · refine oq_if (fun c3 => ?_) (fun c3 => ?_)
      · exact ⟨hJ, trivial⟩
      · exact ⟨hJ, trivial⟩
theorem h_X8_put_11 (a1 : Int32) (a2 : Int64) {s : Sg} (hR : Rg rC s) (p_a1 : 0 ≤ a1.toInt ∧ a1.toInt ≤ 59) : OQ (f_X8_put_11 a1 a2 s) (fun _ s9 => JC 32768 s s9 ∧ True) := by
  have hJ : JC 32768 s s := j_refl hR
  unfold f_X8_put_11
  refine oq_b (h_X8_cut_11 _ hJ.1) (fun r1 s2 hs2 => ?_)
  have js2 : JC 32768 s s2 := j_call hJ hs2.1 rfl
  refine oq_c (inr_of (by have f0 := p_a1; have f1 := i_rg a1; omega)) ?_
  exact ⟨(j_wl js2 15 rfl rfl), trivial⟩
theorem h_X8_cut_12 (a1 : Int64) {s : Sg} (hR : Rg rC s) : OQ (f_X8_cut_12 a1 s) (fun _ s9 => JC 0 s s9 ∧ True) := by
  have hJ : JC 0 s s := j_refl hR
  unfold f_X8_cut_12
  refine oq_if (fun c1 => ?_) (fun c1 => ?_)
  · exact ⟨hJ, trivial⟩
  · refine oq_if (fun c2 => ?_) (fun c2 => ?_)
    · exact ⟨hJ, trivial⟩
    · refine oq_if (fun c3 => ?_) (fun c3 => ?_)
      · exact ⟨hJ, trivial⟩
      · exact ⟨hJ, trivial⟩
theorem h_X8_put_12 (a1 : Int32) (a2 : Int64) {s : Sg} (hR : Rg rC s) (p_a1 : 0 ≤ a1.toInt ∧ a1.toInt ≤ 59) : OQ (f_X8_put_12 a1 a2 s) (fun _ s9 => JC 65536 s s9 ∧ True) := by
  have hJ : JC 65536 s s := j_refl hR
  unfold f_X8_put_12
  refine oq_b (h_X8_cut_12 _ hJ.1) (fun r1 s2 hs2 => ?_)
  have js2 : JC 65536 s s2 := j_call hJ hs2.1 rfl
  refine oq_c (inr_of (by have f0 := p_a1; have f1 := i_rg a1; omega)) ?_
  exact ⟨(j_wl js2 16 rfl rfl), trivial⟩
theorem h_X8_cut_13 (a1 : Int64) {s : Sg} (hR : Rg rC s) : OQ (f_X8_cut_13 a1 s) (fun _ s9 => JC 0 s s9 ∧ True) := by
  have hJ : JC 0 s s := j_refl hR
  unfold f_X8_cut_13
  refine oq_if (fun c1 => ?_) (fun c1 => ?_)
  · exact ⟨hJ, trivial⟩
  · refine oq_if (fun c2 => ?_) (fun c2 => ?_)
    · exact ⟨hJ, trivial⟩
    · refine oq_if (fun c3 => ?_) (fun c3 => ?_)
      · exact ⟨hJ, trivial⟩
      · exact ⟨hJ, trivial⟩
theorem h_X8_put_13 (a1 : Int32) (a2 : Int64) {s : Sg} (hR : Rg rC s) (p_a1 : 0 ≤ a1.toInt ∧ a1.toInt ≤ 59) : OQ (f_X8_put_13 a1 a2 s) (fun _ s9 => JC 131072 s s9 ∧ True) := by
  have hJ : JC 131072 s s := j_refl hR
  unfold f_X8_put_13
  refine oq_b (h_X8_cut_13 _ hJ.1) (fun r1 s2 hs2 => ?_)
  have js2 : JC 131072 s s2 := j_call hJ hs2.1 rfl
  refine oq_c (inr_of (by have f0 := p_a1; have f1 := i_rg a1; omega)) ?_
  exact ⟨(j_wl js2 17 rfl rfl), trivial⟩
theorem h_X11_write (a1 : Int32) (a2 : Int32) (a3 : Int64) {s : Sg} (hR : Rg rC s) : OQ (f_X11_write a1 a2 a3 s) (fun r9 s9 => JC 47890485652059026823698344598447161988085597568483328 s s9 ∧ (0 ≤ r9.toInt ∧ r9.toInt ≤ 1) ∧ (r9 = 0 → True) ∧ (¬ r9 = 0 → 0 ≤ (a1).toInt ∧ (a1).toInt ≤ 3 ∧ 0 ≤ (a2).toInt ∧ (a2).toInt ≤ 59)) := by
  have hJ : JC 47890485652059026823698344598447161988085597568483328 s s := j_refl hR
  unfold f_X11_write
  refine oq_b (h_X11_whyNoPlace _ _ hJ.1) (fun r1 s2 hs2 => ?_)
  have js2 : JC 47890485652059026823698344598447161988085597568483328 s s2 := j_call hJ hs2.1 rfl
  refine oq_if (fun c1 => ?_) (fun c1 => ?_)
  · refine oq_c (inr_of (by have f0 := i_rg a1; have f1 := (hs2.2.2.1 c1).1; have f2 := (hs2.2.2.1 c1).2.1; have f3 : (0 : Int32).toInt = 0 := rfl; have f4 : (3 : Int32).toInt = 3 := rfl; omega)) ?_
    refine oq_s4 (inr_of (by have f0 := i_rg a1; have f1 := (hs2.2.2.1 c1).1; have f2 := (hs2.2.2.1 c1).2.1; have f3 : (0 : Int32).toInt = 0 := rfl; have f4 : (3 : Int32).toInt = 3 := rfl; omega)) (fun ek1 => ?_) (fun ek1 => ?_) (fun ek1 => ?_) (fun ek1 => ?_)
    · refine oq_b (h_X8_put_10 _ _ js2.1 (by have f0 := i_rg a2; have f1 := (hs2.2.2.1 c1).2.2.1; have f2 := (hs2.2.2.1 c1).2.2.2; have f3 : (0 : Int32).toInt = 0 := rfl; have f4 : (59 : Int32).toInt = 59 := rfl; omega)) (fun u3 s5 hs5 => ?_)
      have js5 : JC 47890485652059026823698344598447161988085597568483328 s s5 := j_call js2 hs5.1 rfl
      refine oq_b (h_X11_granted  js5.1) (fun r6 s7 hs7 => ?_)
      have js7 : JC 47890485652059026823698344598447161988085597568483328 s s7 := j_call js5 hs7.1 rfl
      refine oq_c (b01_of (by have f0 := hs7.2.1; have f1 := i_rg r6; omega)) ?_
      exact ⟨js7, (by have f0 := hs7.2.1; have f1 := i_rg r6; omega), fun c9 => False.elim (by have f0 := hs7.2.1; have f1 := i_rg r6; have f2 := i_eq c9; have f3 : (0 : Int32).toInt = 0 := rfl; omega), fun c9 => ⟨(by have f0 : (0 : Int32).toInt = 0 := rfl; have f1 := i_rg a1; have f2 := (hs2.2.2.1 c1).1; have f3 := (hs2.2.2.1 c1).2.1; have f4 := ek1; have f5 : (3 : Int32).toInt = 3 := rfl; omega), (by have f0 := i_rg a1; have f1 : (3 : Int32).toInt = 3 := rfl; have f2 := (hs2.2.2.1 c1).1; have f3 := (hs2.2.2.1 c1).2.1; have f4 := ek1; have f5 : (0 : Int32).toInt = 0 := rfl; omega), (by have f0 : (0 : Int32).toInt = 0 := rfl; have f1 := i_rg a2; have f2 := (hs2.2.2.1 c1).2.2.1; have f3 := (hs2.2.2.1 c1).2.2.2; have f4 : (59 : Int32).toInt = 59 := rfl; omega), (by have f0 := i_rg a2; have f1 : (59 : Int32).toInt = 59 := rfl; have f2 := (hs2.2.2.1 c1).2.2.1; have f3 := (hs2.2.2.1 c1).2.2.2; have f4 : (0 : Int32).toInt = 0 := rfl; omega)⟩⟩
    · refine oq_b (h_X8_put_11 _ _ js2.1 (by have f0 := i_rg a2; have f1 := (hs2.2.2.1 c1).2.2.1; have f2 := (hs2.2.2.1 c1).2.2.2; have f3 : (0 : Int32).toInt = 0 := rfl; have f4 : (59 : Int32).toInt = 59 := rfl; omega)) (fun u4 s9 hs9 => ?_)
      have js9 : JC 47890485652059026823698344598447161988085597568483328 s s9 := j_call js2 hs9.1 rfl
      refine oq_b (h_X11_granted  js9.1) (fun r10 s11 hs11 => ?_)
      have js11 : JC 47890485652059026823698344598447161988085597568483328 s s11 := j_call js9 hs11.1 rfl
      refine oq_c (b01_of (by have f0 := hs11.2.1; have f1 := i_rg r10; omega)) ?_
      exact ⟨js11, (by have f0 := hs11.2.1; have f1 := i_rg r10; omega), fun c9 => False.elim (by have f0 := hs11.2.1; have f1 := i_rg r10; have f2 := i_eq c9; have f3 : (0 : Int32).toInt = 0 := rfl; omega), fun c9 => ⟨(by have f0 : (0 : Int32).toInt = 0 := rfl; have f1 := i_rg a1; have f2 := (hs2.2.2.1 c1).1; have f3 := (hs2.2.2.1 c1).2.1; have f4 := ek1; have f5 : (3 : Int32).toInt = 3 := rfl; have f6 : (1 : Int32).toInt = 1 := rfl; omega), (by have f0 := i_rg a1; have f1 : (3 : Int32).toInt = 3 := rfl; have f2 := (hs2.2.2.1 c1).1; have f3 := (hs2.2.2.1 c1).2.1; have f4 := ek1; have f5 : (0 : Int32).toInt = 0 := rfl; have f6 : (1 : Int32).toInt = 1 := rfl; omega), (by have f0 : (0 : Int32).toInt = 0 := rfl; have f1 := i_rg a2; have f2 := (hs2.2.2.1 c1).2.2.1; have f3 := (hs2.2.2.1 c1).2.2.2; have f4 : (59 : Int32).toInt = 59 := rfl; omega), (by have f0 := i_rg a2; have f1 : (59 : Int32).toInt = 59 := rfl; have f2 := (hs2.2.2.1 c1).2.2.1; have f3 := (hs2.2.2.1 c1).2.2.2; have f4 : (0 : Int32).toInt = 0 := rfl; omega)⟩⟩
    · refine oq_b (h_X8_put_12 _ _ js2.1 (by have f0 := i_rg a2; have f1 := (hs2.2.2.1 c1).2.2.1; have f2 := (hs2.2.2.1 c1).2.2.2; have f3 : (0 : Int32).toInt = 0 := rfl; have f4 : (59 : Int32).toInt = 59 := rfl; omega)) (fun u5 s13 hs13 => ?_)
      have js13 : JC 47890485652059026823698344598447161988085597568483328 s s13 := j_call js2 hs13.1 rfl
      refine oq_b (h_X11_granted  js13.1) (fun r14 s15 hs15 => ?_)
      have js15 : JC 47890485652059026823698344598447161988085597568483328 s s15 := j_call js13 hs15.1 rfl
      refine oq_c (b01_of (by have f0 := hs15.2.1; have f1 := i_rg r14; omega)) ?_
      exact ⟨js15, (by have f0 := hs15.2.1; have f1 := i_rg r14; omega), fun c9 => False.elim (by have f0 := hs15.2.1; have f1 := i_rg r14; have f2 := i_eq c9; have f3 : (0 : Int32).toInt = 0 := rfl; omega), fun c9 => ⟨(by have f0 : (0 : Int32).toInt = 0 := rfl; have f1 := i_rg a1; have f2 := (hs2.2.2.1 c1).1; have f3 := (hs2.2.2.1 c1).2.1; have f4 := ek1; have f5 : (3 : Int32).toInt = 3 := rfl; have f6 : (2 : Int32).toInt = 2 := rfl; omega), (by have f0 := i_rg a1; have f1 : (3 : Int32).toInt = 3 := rfl; have f2 := (hs2.2.2.1 c1).1; have f3 := (hs2.2.2.1 c1).2.1; have f4 := ek1; have f5 : (0 : Int32).toInt = 0 := rfl; have f6 : (2 : Int32).toInt = 2 := rfl; omega), (by have f0 : (0 : Int32).toInt = 0 := rfl; have f1 := i_rg a2; have f2 := (hs2.2.2.1 c1).2.2.1; have f3 := (hs2.2.2.1 c1).2.2.2; have f4 : (59 : Int32).toInt = 59 := rfl; omega), (by have f0 := i_rg a2; have f1 : (59 : Int32).toInt = 59 := rfl; have f2 := (hs2.2.2.1 c1).2.2.1; have f3 := (hs2.2.2.1 c1).2.2.2; have f4 : (0 : Int32).toInt = 0 := rfl; omega)⟩⟩
    · refine oq_b (h_X8_put_13 _ _ js2.1 (by have f0 := i_rg a2; have f1 := (hs2.2.2.1 c1).2.2.1; have f2 := (hs2.2.2.1 c1).2.2.2; have f3 : (0 : Int32).toInt = 0 := rfl; have f4 : (59 : Int32).toInt = 59 := rfl; omega)) (fun u6 s17 hs17 => ?_)
      have js17 : JC 47890485652059026823698344598447161988085597568483328 s s17 := j_call js2 hs17.1 rfl
      refine oq_b (h_X11_granted  js17.1) (fun r18 s19 hs19 => ?_)
      have js19 : JC 47890485652059026823698344598447161988085597568483328 s s19 := j_call js17 hs19.1 rfl
      refine oq_c (b01_of (by have f0 := hs19.2.1; have f1 := i_rg r18; omega)) ?_
      exact ⟨js19, (by have f0 := hs19.2.1; have f1 := i_rg r18; omega), fun c9 => False.elim (by have f0 := hs19.2.1; have f1 := i_rg r18; have f2 := i_eq c9; have f3 : (0 : Int32).toInt = 0 := rfl; omega), fun c9 => ⟨(by have f0 : (0 : Int32).toInt = 0 := rfl; have f1 := i_rg a1; have f2 := (hs2.2.2.1 c1).1; have f3 := (hs2.2.2.1 c1).2.1; have f4 := ek1; have f5 : (3 : Int32).toInt = 3 := rfl; omega), (by have f0 := i_rg a1; have f1 : (3 : Int32).toInt = 3 := rfl; have f2 := (hs2.2.2.1 c1).1; have f3 := (hs2.2.2.1 c1).2.1; have f4 := ek1; have f5 : (0 : Int32).toInt = 0 := rfl; omega), (by have f0 : (0 : Int32).toInt = 0 := rfl; have f1 := i_rg a2; have f2 := (hs2.2.2.1 c1).2.2.1; have f3 := (hs2.2.2.1 c1).2.2.2; have f4 : (59 : Int32).toInt = 59 := rfl; omega), (by have f0 := i_rg a2; have f1 : (59 : Int32).toInt = 59 := rfl; have f2 := (hs2.2.2.1 c1).2.2.1; have f3 := (hs2.2.2.1 c1).2.2.2; have f4 : (0 : Int32).toInt = 0 := rfl; omega)⟩⟩
  · refine oq_b (h_X11_refused _ js2.1 (by have f0 := hs2.2.1; have f1 := i_rg r1; have f2 := i_ne c1; have f3 : (0 : Int32).toInt = 0 := rfl; omega)) (fun r20 s21 hs21 => ?_)
    have js21 : JC 47890485652059026823698344598447161988085597568483328 s s21 := j_call js2 hs21.1 rfl
    refine oq_c (b01_of (by have f0 := hs21.2.1; have f1 := i_rg r20; omega)) ?_
    exact ⟨js21, (by have f0 := hs21.2.1; have f1 := i_rg r20; omega), fun _ => trivial, fun c9 => False.elim (by have f0 := hs21.2.1; have f1 := i_rg r20; have f2 := i_ne c9; have f3 : (0 : Int32).toInt = 0 := rfl; omega)⟩
theorem h_X11_refuse (a1 : Int32) {s : Sg} (hR : Rg rC s) (p_a1 : 1 ≤ a1.toInt ∧ a1.toInt ≤ 9) : OQ (f_X11_refuse a1 s) (fun r9 s9 => JC 47890485652059026823698344598447161988085597568237568 s s9 ∧ ((-1) ≤ r9.toInt ∧ r9.toInt ≤ (-1)) ∧ (r9 = 0 → True) ∧ (¬ r9 = 0 → True)) := by
  have hJ : JC 47890485652059026823698344598447161988085597568237568 s s := j_refl hR
  unfold f_X11_refuse
  exact ⟨(j_wf hJ rfl 175 rfl rfl), (by have f0 : ((-1) : Int32).toInt = (-1) := rfl; omega), fun c9 => absurd c9 (by decide), fun _ => trivial⟩
theorem h_X11_read (a1 : Int32) (a2 : Int32) {s : Sg} (hR : Rg rC s) : OQ (f_X11_read a1 a2 s) (fun _ s9 => JC 47890485652059026823698344598447161988085597568237568 s s9 ∧ True) := by
  have hJ : JC 47890485652059026823698344598447161988085597568237568 s s := j_refl hR
  unfold f_X11_read
  refine oq_b (h_X11_whyNoPlace _ _ hJ.1) (fun r1 s2 hs2 => ?_)
  have js2 : JC 47890485652059026823698344598447161988085597568237568 s s2 := j_call hJ hs2.1 rfl
  refine oq_if (fun c1 => ?_) (fun c1 => ?_)
  · refine oq_c (inr_of (by have f0 := i_rg a1; have f1 := (hs2.2.2.1 c1).1; have f2 := (hs2.2.2.1 c1).2.1; have f3 : (0 : Int32).toInt = 0 := rfl; have f4 : (3 : Int32).toInt = 3 := rfl; omega)) ?_
    refine oq_s4 (inr_of (by have f0 := i_rg a1; have f1 := (hs2.2.2.1 c1).1; have f2 := (hs2.2.2.1 c1).2.1; have f3 : (0 : Int32).toInt = 0 := rfl; have f4 : (3 : Int32).toInt = 3 := rfl; omega)) (fun ek1 => ?_) (fun ek1 => ?_) (fun ek1 => ?_) (fun ek1 => ?_)
    · refine oq_c (inr_of (by have f0 := i_rg a2; have f1 := (hs2.2.2.1 c1).2.2.1; have f2 := (hs2.2.2.1 c1).2.2.2; have f3 : (0 : Int32).toInt = 0 := rfl; have f4 : (59 : Int32).toInt = 59 := rfl; omega)) ?_
      exact ⟨(j_wf js2 rfl 175 rfl rfl), trivial⟩
    · refine oq_c (inr_of (by have f0 := i_rg a2; have f1 := (hs2.2.2.1 c1).2.2.1; have f2 := (hs2.2.2.1 c1).2.2.2; have f3 : (0 : Int32).toInt = 0 := rfl; have f4 : (59 : Int32).toInt = 59 := rfl; omega)) ?_
      exact ⟨(j_wf js2 rfl 175 rfl rfl), trivial⟩
    · refine oq_c (inr_of (by have f0 := i_rg a2; have f1 := (hs2.2.2.1 c1).2.2.1; have f2 := (hs2.2.2.1 c1).2.2.2; have f3 : (0 : Int32).toInt = 0 := rfl; have f4 : (59 : Int32).toInt = 59 := rfl; omega)) ?_
      exact ⟨(j_wf js2 rfl 175 rfl rfl), trivial⟩
    · refine oq_c (inr_of (by have f0 := i_rg a2; have f1 := (hs2.2.2.1 c1).2.2.1; have f2 := (hs2.2.2.1 c1).2.2.2; have f3 : (0 : Int32).toInt = 0 := rfl; have f4 : (59 : Int32).toInt = 59 := rfl; omega)) ?_
      exact ⟨(j_wf js2 rfl 175 rfl rfl), trivial⟩
  · refine oq_b (h_X11_refuse _ js2.1 (by have f0 := hs2.2.1; have f1 := i_rg r1; have f2 := i_ne c1; have f3 : (0 : Int32).toInt = 0 := rfl; omega)) (fun r8 s9 hs9 => ?_)
    have js9 : JC 47890485652059026823698344598447161988085597568237568 s s9 := j_call js2 hs9.1 rfl
    exact ⟨js9, trivial⟩
theorem h_X8_reachesTo_10 (a1 : Int32) (a2 : Int32) {s : Sg} (hR : Rg rC s) (p_a1 : 0 ≤ a1.toInt ∧ a1.toInt ≤ 2147483647) (p_a2 : 0 ≤ a2.toInt ∧ a2.toInt ≤ 2147483647) : OQ (f_X8_reachesTo_10 a1 a2 s) (fun r9 s9 => JC 0 s s9 ∧ (0 ≤ r9.toInt ∧ r9.toInt ≤ 1) ∧ (r9 = 0 → True) ∧ (¬ r9 = 0 → (a1).toInt + (a2).toInt ≤ 60)) := by
  have hJ : JC 0 s s := j_refl hR
  unfold f_X8_reachesTo_10
  refine oq_if (fun c1 => ?_) (fun c1 => ?_)
  · exact ⟨hJ, (by have f0 : (0 : Int32).toInt = 0 := rfl; omega), fun _ => trivial, fun c9 => absurd rfl c9⟩
  · exact ⟨hJ, (by have f0 : (1 : Int32).toInt = 1 := rfl; omega), fun c9 => absurd c9 (by decide), fun c9 => (by have f0 := p_a1; have f1 := i_rg a1; have f2 := p_a2; have f3 := i_rg a2; have f4 : (60 : Int32).toInt = 60 := rfl; have f5 := rt_of c1; have f6 : (0 : Int32).toInt = 0 := rfl; have f7 := j_rd hJ 10 3 rfl; omega)⟩
theorem h_X8_reachesTo_11 (a1 : Int32) (a2 : Int32) {s : Sg} (hR : Rg rC s) (p_a1 : 0 ≤ a1.toInt ∧ a1.toInt ≤ 2147483647) (p_a2 : 0 ≤ a2.toInt ∧ a2.toInt ≤ 2147483647) : OQ (f_X8_reachesTo_11 a1 a2 s) (fun r9 s9 => JC 0 s s9 ∧ (0 ≤ r9.toInt ∧ r9.toInt ≤ 1) ∧ (r9 = 0 → True) ∧ (¬ r9 = 0 → (a1).toInt + (a2).toInt ≤ 60)) := by
  have hJ : JC 0 s s := j_refl hR
  unfold f_X8_reachesTo_11
  refine oq_if (fun c1 => ?_) (fun c1 => ?_)
  · exact ⟨hJ, (by have f0 : (0 : Int32).toInt = 0 := rfl; omega), fun _ => trivial, fun c9 => absurd rfl c9⟩
  · exact ⟨hJ, (by have f0 : (1 : Int32).toInt = 1 := rfl; omega), fun c9 => absurd c9 (by decide), fun c9 => (by have f0 := p_a1; have f1 := i_rg a1; have f2 := p_a2; have f3 := i_rg a2; have f4 : (60 : Int32).toInt = 60 := rfl; have f5 := rt_of c1; have f6 : (0 : Int32).toInt = 0 := rfl; have f7 := j_rd hJ 11 3 rfl; omega)⟩
theorem h_X8_reachesTo_12 (a1 : Int32) (a2 : Int32) {s : Sg} (hR : Rg rC s) (p_a1 : 0 ≤ a1.toInt ∧ a1.toInt ≤ 2147483647) (p_a2 : 0 ≤ a2.toInt ∧ a2.toInt ≤ 2147483647) : OQ (f_X8_reachesTo_12 a1 a2 s) (fun r9 s9 => JC 0 s s9 ∧ (0 ≤ r9.toInt ∧ r9.toInt ≤ 1) ∧ (r9 = 0 → True) ∧ (¬ r9 = 0 → (a1).toInt + (a2).toInt ≤ 60)) := by
  have hJ : JC 0 s s := j_refl hR
  unfold f_X8_reachesTo_12
  refine oq_if (fun c1 => ?_) (fun c1 => ?_)
  · exact ⟨hJ, (by have f0 : (0 : Int32).toInt = 0 := rfl; omega), fun _ => trivial, fun c9 => absurd rfl c9⟩
  · exact ⟨hJ, (by have f0 : (1 : Int32).toInt = 1 := rfl; omega), fun c9 => absurd c9 (by decide), fun c9 => (by have f0 := p_a1; have f1 := i_rg a1; have f2 := p_a2; have f3 := i_rg a2; have f4 : (60 : Int32).toInt = 60 := rfl; have f5 := rt_of c1; have f6 : (0 : Int32).toInt = 0 := rfl; have f7 := j_rd hJ 12 3 rfl; omega)⟩
theorem h_X8_reachesTo_13 (a1 : Int32) (a2 : Int32) {s : Sg} (hR : Rg rC s) (p_a1 : 0 ≤ a1.toInt ∧ a1.toInt ≤ 2147483647) (p_a2 : 0 ≤ a2.toInt ∧ a2.toInt ≤ 2147483647) : OQ (f_X8_reachesTo_13 a1 a2 s) (fun r9 s9 => JC 0 s s9 ∧ (0 ≤ r9.toInt ∧ r9.toInt ≤ 1) ∧ (r9 = 0 → True) ∧ (¬ r9 = 0 → (a1).toInt + (a2).toInt ≤ 60)) := by
  have hJ : JC 0 s s := j_refl hR
  unfold f_X8_reachesTo_13
  refine oq_if (fun c1 => ?_) (fun c1 => ?_)
  · exact ⟨hJ, (by have f0 : (0 : Int32).toInt = 0 := rfl; omega), fun _ => trivial, fun c9 => absurd rfl c9⟩
  · exact ⟨hJ, (by have f0 : (1 : Int32).toInt = 1 := rfl; omega), fun c9 => absurd c9 (by decide), fun c9 => (by have f0 := p_a1; have f1 := i_rg a1; have f2 := p_a2; have f3 := i_rg a2; have f4 : (60 : Int32).toInt = 60 := rfl; have f5 := rt_of c1; have f6 : (0 : Int32).toInt = 0 := rfl; have f7 := j_rd hJ 13 3 rfl; omega)⟩
theorem h_X11_pour (a1 : Int32) (a2 : Int32) (a3 : Int32) (a4 : Int32) (a5 : Int32) {s : Sg} (hR : Rg rC s) : OQ (f_X11_pour a1 a2 a3 a4 a5 s) (fun r9 s9 => JC 47890485652059026823698344598447161988085597568483328 s s9 ∧ (0 ≤ r9.toInt ∧ r9.toInt ≤ 1) ∧ (r9 = 0 → True) ∧ (¬ r9 = 0 → 0 ≤ (a1).toInt ∧ (a1).toInt ≤ 3 ∧ 0 ≤ (a2).toInt ∧ 0 ≤ (a3).toInt ∧ (a3).toInt ≤ 3 ∧ 0 ≤ (a4).toInt ∧ 0 ≤ (a5).toInt)) := by
  have hJ : JC 47890485652059026823698344598447161988085597568483328 s s := j_refl hR
  unfold f_X11_pour
  refine oq_b (h_X11_isTray _ hJ.1) (fun r1 s2 hs2 => ?_)
  have js2 : JC 47890485652059026823698344598447161988085597568483328 s s2 := j_call hJ hs2.1 rfl
  refine oq_if (fun c1 => ?_) (fun c1 => ?_)
  · refine oq_b (h_X11_refused _ js2.1 (by have f0 : (1 : Int32).toInt = 1 := rfl; omega)) (fun r3 s4 hs4 => ?_)
    have js4 : JC 47890485652059026823698344598447161988085597568483328 s s4 := j_call js2 hs4.1 rfl
    refine oq_c (b01_of (by have f0 := hs4.2.1; have f1 := i_rg r3; omega)) ?_
    exact ⟨js4, (by have f0 := hs4.2.1; have f1 := i_rg r3; omega), fun _ => trivial, fun c9 => False.elim (by have f0 := hs4.2.1; have f1 := i_rg r3; have f2 := i_ne c9; have f3 : (0 : Int32).toInt = 0 := rfl; omega)⟩
  · refine oq_b (h_X11_isTray _ js2.1) (fun r5 s6 hs6 => ?_)
    have js6 : JC 47890485652059026823698344598447161988085597568483328 s s6 := j_call js2 hs6.1 rfl
    refine oq_if (fun c2 => ?_) (fun c2 => ?_)
    · refine oq_b (h_X11_refused _ js6.1 (by have f0 : (1 : Int32).toInt = 1 := rfl; omega)) (fun r7 s8 hs8 => ?_)
      have js8 : JC 47890485652059026823698344598447161988085597568483328 s s8 := j_call js6 hs8.1 rfl
      refine oq_c (b01_of (by have f0 := hs8.2.1; have f1 := i_rg r7; omega)) ?_
      exact ⟨js8, (by have f0 := hs8.2.1; have f1 := i_rg r7; omega), fun _ => trivial, fun c9 => False.elim (by have f0 := hs8.2.1; have f1 := i_rg r7; have f2 := i_ne c9; have f3 : (0 : Int32).toInt = 0 := rfl; omega)⟩
    · refine oq_if (fun c3 => ?_) (fun c3 => ?_)
      · refine oq_b (h_X11_refused _ js6.1 (by have f0 : (1 : Int32).toInt = 1 := rfl; omega)) (fun r9 s10 hs10 => ?_)
        have js10 : JC 47890485652059026823698344598447161988085597568483328 s s10 := j_call js6 hs10.1 rfl
        refine oq_c (b01_of (by have f0 := hs10.2.1; have f1 := i_rg r9; omega)) ?_
        exact ⟨js10, (by have f0 := hs10.2.1; have f1 := i_rg r9; omega), fun _ => trivial, fun c9 => False.elim (by have f0 := hs10.2.1; have f1 := i_rg r9; have f2 := i_ne c9; have f3 : (0 : Int32).toInt = 0 := rfl; omega)⟩
      · refine oq_if (fun c4 => ?_) (fun c4 => ?_)
        · refine oq_b (h_X11_refused _ js6.1 (by have f0 : (1 : Int32).toInt = 1 := rfl; omega)) (fun r11 s12 hs12 => ?_)
          have js12 : JC 47890485652059026823698344598447161988085597568483328 s s12 := j_call js6 hs12.1 rfl
          refine oq_c (b01_of (by have f0 := hs12.2.1; have f1 := i_rg r11; omega)) ?_
          exact ⟨js12, (by have f0 := hs12.2.1; have f1 := i_rg r11; omega), fun _ => trivial, fun c9 => False.elim (by have f0 := hs12.2.1; have f1 := i_rg r11; have f2 := i_ne c9; have f3 : (0 : Int32).toInt = 0 := rfl; omega)⟩
        · refine oq_if (fun c5 => ?_) (fun c5 => ?_)
          · refine oq_c (inr_of (by have f0 := i_rg a1; have f1 := (hs2.2.2.2 c1).1; have f2 := (hs2.2.2.2 c1).2; have f3 : (0 : Int32).toInt = 0 := rfl; have f4 : (3 : Int32).toInt = 3 := rfl; omega)) ?_
            refine oq_s4 (inr_of (by have f0 := i_rg a1; have f1 := (hs2.2.2.2 c1).1; have f2 := (hs2.2.2.2 c1).2; have f3 : (0 : Int32).toInt = 0 := rfl; have f4 : (3 : Int32).toInt = 3 := rfl; omega)) (fun ek5 => ?_) (fun ek5 => ?_) (fun ek5 => ?_) (fun ek5 => ?_)
            · refine oq_c (inr_of (by have f0 := i_rg a3; have f1 := (hs6.2.2.2 c2).1; have f2 := (hs6.2.2.2 c2).2; have f3 : (0 : Int32).toInt = 0 := rfl; have f4 : (3 : Int32).toInt = 3 := rfl; omega)) ?_
              refine oq_s4 (inr_of (by have f0 := i_rg a3; have f1 := (hs6.2.2.2 c2).1; have f2 := (hs6.2.2.2 c2).2; have f3 : (0 : Int32).toInt = 0 := rfl; have f4 : (3 : Int32).toInt = 3 := rfl; omega)) (fun ek6 => ?_) (fun ek6 => ?_) (fun ek6 => ?_) (fun ek6 => ?_)
              · refine oq_if (fun c8 => ?_) (fun c8 => ?_)
                · refine oq_b (h_X11_refused _ js6.1 (by have f0 : (2 : Int32).toInt = 2 := rfl; omega)) (fun r15 s16 hs16 => ?_)
                  have js16 : JC 47890485652059026823698344598447161988085597568483328 s s16 := j_call js6 hs16.1 rfl
                  refine oq_c (b01_of (by have f0 := hs16.2.1; have f1 := i_rg r15; omega)) ?_
                  exact ⟨js16, (by have f0 := hs16.2.1; have f1 := i_rg r15; omega), fun _ => trivial, fun c9 => False.elim (by have f0 := hs16.2.1; have f1 := i_rg r15; have f2 := i_ne c9; have f3 : (0 : Int32).toInt = 0 := rfl; omega)⟩
                · refine oq_if (fun c9 => ?_) (fun c9 => ?_)
                  · exact False.elim (by have f0 := j_rd js6 10 1 rfl; have f1 : (s6.1 10 1).toInt = (s2.1 10 1).toInt := j_fr hs6.1 10 1 10 rfl rfl; have f2 : (0 : Int32).toInt = 0 := rfl; have f3 := j_rd js2 10 1 rfl; have f4 : (s2.1 10 1).toInt = (s.1 10 1).toInt := j_fr hs2.1 10 1 10 rfl rfl; have f5 := j_rd hJ 10 1 rfl; have f6 := i_ne c8; have f7 := i_eq c9; omega)
                  · refine oq_if (fun c10 => ?_) (fun c10 => ?_)
                    · refine oq_b (h_X8_reachesTo_10 _ _ js6.1 (by have f0 := i_rg a2; have f1 := i_nlt c3; have f2 : (0 : Int32).toInt = 0 := rfl; omega) (by have f0 := i_rg a5; have f1 := i_le c5; have f2 : (0 : Int32).toInt = 0 := rfl; omega)) (fun r19 s20 hs20 => ?_)
                      have js20 : JC 47890485652059026823698344598447161988085597568483328 s s20 := j_call js6 hs20.1 rfl
                      refine oq_if (fun c11 => ?_) (fun c11 => ?_)
                      · refine oq_b (h_X11_refused _ js20.1 (by have f0 : (3 : Int32).toInt = 3 := rfl; omega)) (fun r21 s22 hs22 => ?_)
                        have js22 : JC 47890485652059026823698344598447161988085597568483328 s s22 := j_call js20 hs22.1 rfl
                        refine oq_c (b01_of (by have f0 := hs22.2.1; have f1 := i_rg r21; omega)) ?_
                        exact ⟨js22, (by have f0 := hs22.2.1; have f1 := i_rg r21; omega), fun _ => trivial, fun c9 => False.elim (by have f0 := hs22.2.1; have f1 := i_rg r21; have f2 := i_ne c9; have f3 : (0 : Int32).toInt = 0 := rfl; omega)⟩
                      · refine oq_b (h_X8_reachesTo_10 _ _ js20.1 (by have f0 := i_rg a4; have f1 := i_nlt c4; have f2 : (0 : Int32).toInt = 0 := rfl; omega) (by have f0 := i_rg a5; have f1 := i_le c5; have f2 := (hs20.2.2.2 c11); have f3 : (0 : Int32).toInt = 0 := rfl; have f4 := i_rg a2; have f5 : (60 : Int32).toInt = 60 := rfl; have f6 := i_nlt c3; omega)) (fun r23 s24 hs24 => ?_)
                        have js24 : JC 47890485652059026823698344598447161988085597568483328 s s24 := j_call js20 hs24.1 rfl
                        refine oq_if (fun c12 => ?_) (fun c12 => ?_)
                        · refine oq_b (h_X11_refused _ js24.1 (by have f0 : (3 : Int32).toInt = 3 := rfl; omega)) (fun r25 s26 hs26 => ?_)
                          have js26 : JC 47890485652059026823698344598447161988085597568483328 s s26 := j_call js24 hs26.1 rfl
                          refine oq_c (b01_of (by have f0 := hs26.2.1; have f1 := i_rg r25; omega)) ?_
                          exact ⟨js26, (by have f0 := hs26.2.1; have f1 := i_rg r25; omega), fun _ => trivial, fun c9 => False.elim (by have f0 := hs26.2.1; have f1 := i_rg r25; have f2 := i_ne c9; have f3 : (0 : Int32).toInt = 0 := rfl; omega)⟩
                        · refine oq_c ⟨(nlt_of (by have f0 := i_rg a2; have f1 := i_nlt c3; have f2 := (hs20.2.2.2 c11); have f3 := (hs24.2.2.2 c12); have f4 : (0 : Int32).toInt = 0 := rfl; have f5 := i_rg a5; have f6 : (60 : Int32).toInt = 60 := rfl; have f7 := i_rg a4; have f8 := i_nlt c4; have f9 := i_le c5; omega)), (nlt_of (by have f0 := i_rg a4; have f1 := i_nlt c4; have f2 := (hs24.2.2.2 c12); have f3 : (0 : Int32).toInt = 0 := rfl; have f4 := i_rg a5; have f5 : (60 : Int32).toInt = 60 := rfl; have f6 := i_le c5; have f7 := (hs20.2.2.2 c11); have f8 := i_rg a2; have f9 := i_nlt c3; omega)), (nlt_of (by have f0 := i_rg a5; have f1 := i_le c5; have f2 := (hs20.2.2.2 c11); have f3 := (hs24.2.2.2 c12); have f4 : (0 : Int32).toInt = 0 := rfl; have f5 := i_rg a2; have f6 : (60 : Int32).toInt = 60 := rfl; have f7 := i_rg a4; have f8 := i_nlt c3; have f9 := i_nlt c4; omega)), (by have f0 := i_rg a2; have f1 := i_rg a5; have f2 := i_nlt c3; have f3 := i_le c5; have f4 := (hs20.2.2.2 c11); have f5 := (hs24.2.2.2 c12); have f6 : (0 : Int32).toInt = 0 := rfl; have f7 : (60 : Int32).toInt = 60 := rfl; have f8 := i_rg a4; have f9 := i_nlt c4; have f10 := cl_nat (a2); have f11 := cl_nat (a5); omega), (by have f0 := i_rg a4; have f1 := i_rg a5; have f2 := i_nlt c4; have f3 := i_le c5; have f4 := (hs20.2.2.2 c11); have f5 := (hs24.2.2.2 c12); have f6 : (0 : Int32).toInt = 0 := rfl; have f7 := i_rg a2; have f8 : (60 : Int32).toInt = 60 := rfl; have f9 := i_nlt c3; have f10 := cl_nat (a4); have f11 := cl_nat (a5); omega)⟩ ?_
                          refine oq_b (h_X11_granted  (j_cb js24 14 (fun _ => rfl) rfl).1) (fun r27 s28 hs28 => ?_)
                          have js28 : JC 47890485652059026823698344598447161988085597568483328 s s28 := j_call (j_cb js24 14 (fun _ => rfl) rfl) hs28.1 rfl
                          refine oq_c (b01_of (by have f0 := hs28.2.1; have f1 := i_rg r27; omega)) ?_
                          exact ⟨js28, (by have f0 := hs28.2.1; have f1 := i_rg r27; omega), fun c9 => False.elim (by have f0 := hs28.2.1; have f1 := i_rg r27; have f2 := i_eq c9; have f3 : (0 : Int32).toInt = 0 := rfl; omega), fun c9 => ⟨(by have f0 : (0 : Int32).toInt = 0 := rfl; have f1 := i_rg a1; have f2 := (hs2.2.2.2 c1).1; have f3 := (hs2.2.2.2 c1).2; have f4 := ek5; have f5 : (3 : Int32).toInt = 3 := rfl; omega), (by have f0 := i_rg a1; have f1 : (3 : Int32).toInt = 3 := rfl; have f2 := (hs2.2.2.2 c1).1; have f3 := (hs2.2.2.2 c1).2; have f4 := ek5; have f5 : (0 : Int32).toInt = 0 := rfl; omega), (by have f0 : (0 : Int32).toInt = 0 := rfl; have f1 := i_rg a2; have f2 := i_nlt c3; have f3 := (hs20.2.2.2 c11); have f4 := (hs24.2.2.2 c12); have f5 := i_rg a5; have f6 : (60 : Int32).toInt = 60 := rfl; have f7 := i_rg a4; have f8 := i_nlt c4; have f9 := i_le c5; omega), (by have f0 : (0 : Int32).toInt = 0 := rfl; have f1 := i_rg a3; have f2 := (hs6.2.2.2 c2).1; have f3 := (hs6.2.2.2 c2).2; have f4 := ek6; have f5 : (3 : Int32).toInt = 3 := rfl; omega), (by have f0 := i_rg a3; have f1 : (3 : Int32).toInt = 3 := rfl; have f2 := (hs6.2.2.2 c2).1; have f3 := (hs6.2.2.2 c2).2; have f4 := ek6; have f5 : (0 : Int32).toInt = 0 := rfl; omega), (by have f0 : (0 : Int32).toInt = 0 := rfl; have f1 := i_rg a4; have f2 := i_nlt c4; have f3 := (hs24.2.2.2 c12); have f4 := i_rg a5; have f5 : (60 : Int32).toInt = 60 := rfl; have f6 := i_le c5; have f7 := (hs20.2.2.2 c11); have f8 := i_rg a2; have f9 := i_nlt c3; omega), (by have f0 : (0 : Int32).toInt = 0 := rfl; have f1 := i_rg a5; have f2 := i_le c5; have f3 := (hs20.2.2.2 c11); have f4 := (hs24.2.2.2 c12); have f5 := i_rg a2; have f6 : (60 : Int32).toInt = 60 := rfl; have f7 := i_rg a4; have f8 := i_nlt c3; have f9 := i_nlt c4; omega)⟩⟩
                    · refine oq_b (h_X11_refused _ js6.1 (by have f0 : (8 : Int32).toInt = 8 := rfl; omega)) (fun r29 s30 hs30 => ?_)
                      have js30 : JC 47890485652059026823698344598447161988085597568483328 s s30 := j_call js6 hs30.1 rfl
                      refine oq_c (b01_of (by have f0 := hs30.2.1; have f1 := i_rg r29; omega)) ?_
                      exact ⟨js30, (by have f0 := hs30.2.1; have f1 := i_rg r29; omega), fun _ => trivial, fun c9 => False.elim (by have f0 := hs30.2.1; have f1 := i_rg r29; have f2 := i_ne c9; have f3 : (0 : Int32).toInt = 0 := rfl; omega)⟩
              · refine oq_if (fun c13 => ?_) (fun c13 => ?_)
                · refine oq_b (h_X11_refused _ js6.1 (by have f0 : (2 : Int32).toInt = 2 := rfl; omega)) (fun r31 s32 hs32 => ?_)
                  have js32 : JC 47890485652059026823698344598447161988085597568483328 s s32 := j_call js6 hs32.1 rfl
                  refine oq_c (b01_of (by have f0 := hs32.2.1; have f1 := i_rg r31; omega)) ?_
                  exact ⟨js32, (by have f0 := hs32.2.1; have f1 := i_rg r31; omega), fun _ => trivial, fun c9 => False.elim (by have f0 := hs32.2.1; have f1 := i_rg r31; have f2 := i_ne c9; have f3 : (0 : Int32).toInt = 0 := rfl; omega)⟩
                · refine oq_if (fun c14 => ?_) (fun c14 => ?_)
                  · refine oq_b (h_X11_refused _ js6.1 (by have f0 : (2 : Int32).toInt = 2 := rfl; omega)) (fun r33 s34 hs34 => ?_)
                    have js34 : JC 47890485652059026823698344598447161988085597568483328 s s34 := j_call js6 hs34.1 rfl
                    refine oq_c (b01_of (by have f0 := hs34.2.1; have f1 := i_rg r33; omega)) ?_
                    exact ⟨js34, (by have f0 := hs34.2.1; have f1 := i_rg r33; omega), fun _ => trivial, fun c9 => False.elim (by have f0 := hs34.2.1; have f1 := i_rg r33; have f2 := i_ne c9; have f3 : (0 : Int32).toInt = 0 := rfl; omega)⟩
                  · refine oq_if (fun c15 => ?_) (fun c15 => ?_)
                    · refine oq_b (h_X8_reachesTo_10 _ _ js6.1 (by have f0 := i_rg a2; have f1 := i_nlt c3; have f2 : (0 : Int32).toInt = 0 := rfl; omega) (by have f0 := i_rg a5; have f1 := i_le c5; have f2 : (0 : Int32).toInt = 0 := rfl; omega)) (fun r35 s36 hs36 => ?_)
                      have js36 : JC 47890485652059026823698344598447161988085597568483328 s s36 := j_call js6 hs36.1 rfl
                      refine oq_if (fun c16 => ?_) (fun c16 => ?_)
                      · refine oq_b (h_X11_refused _ js36.1 (by have f0 : (3 : Int32).toInt = 3 := rfl; omega)) (fun r37 s38 hs38 => ?_)
                        have js38 : JC 47890485652059026823698344598447161988085597568483328 s s38 := j_call js36 hs38.1 rfl
                        refine oq_c (b01_of (by have f0 := hs38.2.1; have f1 := i_rg r37; omega)) ?_
                        exact ⟨js38, (by have f0 := hs38.2.1; have f1 := i_rg r37; omega), fun _ => trivial, fun c9 => False.elim (by have f0 := hs38.2.1; have f1 := i_rg r37; have f2 := i_ne c9; have f3 : (0 : Int32).toInt = 0 := rfl; omega)⟩
                      · refine oq_b (h_X8_reachesTo_11 _ _ js36.1 (by have f0 := i_rg a4; have f1 := i_nlt c4; have f2 : (0 : Int32).toInt = 0 := rfl; omega) (by have f0 := i_rg a5; have f1 := i_le c5; have f2 := (hs36.2.2.2 c16); have f3 : (0 : Int32).toInt = 0 := rfl; have f4 := i_rg a2; have f5 : (60 : Int32).toInt = 60 := rfl; have f6 := i_nlt c3; omega)) (fun r39 s40 hs40 => ?_)
                        have js40 : JC 47890485652059026823698344598447161988085597568483328 s s40 := j_call js36 hs40.1 rfl
                        refine oq_if (fun c17 => ?_) (fun c17 => ?_)
                        · refine oq_b (h_X11_refused _ js40.1 (by have f0 : (3 : Int32).toInt = 3 := rfl; omega)) (fun r41 s42 hs42 => ?_)
                          have js42 : JC 47890485652059026823698344598447161988085597568483328 s s42 := j_call js40 hs42.1 rfl
                          refine oq_c (b01_of (by have f0 := hs42.2.1; have f1 := i_rg r41; omega)) ?_
                          exact ⟨js42, (by have f0 := hs42.2.1; have f1 := i_rg r41; omega), fun _ => trivial, fun c9 => False.elim (by have f0 := hs42.2.1; have f1 := i_rg r41; have f2 := i_ne c9; have f3 : (0 : Int32).toInt = 0 := rfl; omega)⟩
                        · refine oq_c ⟨(nlt_of (by have f0 := i_rg a2; have f1 := i_nlt c3; have f2 := (hs36.2.2.2 c16); have f3 := (hs40.2.2.2 c17); have f4 : (0 : Int32).toInt = 0 := rfl; have f5 := i_rg a5; have f6 : (60 : Int32).toInt = 60 := rfl; have f7 := i_rg a4; have f8 := i_nlt c4; have f9 := i_le c5; omega)), (nlt_of (by have f0 := i_rg a4; have f1 := i_nlt c4; have f2 := (hs40.2.2.2 c17); have f3 : (0 : Int32).toInt = 0 := rfl; have f4 := i_rg a5; have f5 : (60 : Int32).toInt = 60 := rfl; have f6 := i_le c5; have f7 := (hs36.2.2.2 c16); have f8 := i_rg a2; have f9 := i_nlt c3; omega)), (nlt_of (by have f0 := i_rg a5; have f1 := i_le c5; have f2 := (hs36.2.2.2 c16); have f3 := (hs40.2.2.2 c17); have f4 : (0 : Int32).toInt = 0 := rfl; have f5 := i_rg a2; have f6 : (60 : Int32).toInt = 60 := rfl; have f7 := i_rg a4; have f8 := i_nlt c3; have f9 := i_nlt c4; omega)), (by have f0 := i_rg a2; have f1 := i_rg a5; have f2 := i_nlt c3; have f3 := i_le c5; have f4 := (hs36.2.2.2 c16); have f5 := (hs40.2.2.2 c17); have f6 : (0 : Int32).toInt = 0 := rfl; have f7 : (60 : Int32).toInt = 60 := rfl; have f8 := i_rg a4; have f9 := i_nlt c4; have f10 := cl_nat (a2); have f11 := cl_nat (a5); omega), (by have f0 := i_rg a4; have f1 := i_rg a5; have f2 := i_nlt c4; have f3 := i_le c5; have f4 := (hs36.2.2.2 c16); have f5 := (hs40.2.2.2 c17); have f6 : (0 : Int32).toInt = 0 := rfl; have f7 := i_rg a2; have f8 : (60 : Int32).toInt = 60 := rfl; have f9 := i_nlt c3; have f10 := cl_nat (a4); have f11 := cl_nat (a5); omega)⟩ ?_
                          refine oq_b (h_X11_granted  (j_cb js40 15 (fun _ => rfl) rfl).1) (fun r43 s44 hs44 => ?_)
                          have js44 : JC 47890485652059026823698344598447161988085597568483328 s s44 := j_call (j_cb js40 15 (fun _ => rfl) rfl) hs44.1 rfl
                          refine oq_c (b01_of (by have f0 := hs44.2.1; have f1 := i_rg r43; omega)) ?_
                          exact ⟨js44, (by have f0 := hs44.2.1; have f1 := i_rg r43; omega), fun c9 => False.elim (by have f0 := hs44.2.1; have f1 := i_rg r43; have f2 := i_eq c9; have f3 : (0 : Int32).toInt = 0 := rfl; omega), fun c9 => ⟨(by have f0 : (0 : Int32).toInt = 0 := rfl; have f1 := i_rg a1; have f2 := (hs2.2.2.2 c1).1; have f3 := (hs2.2.2.2 c1).2; have f4 := ek5; have f5 : (3 : Int32).toInt = 3 := rfl; omega), (by have f0 := i_rg a1; have f1 : (3 : Int32).toInt = 3 := rfl; have f2 := (hs2.2.2.2 c1).1; have f3 := (hs2.2.2.2 c1).2; have f4 := ek5; have f5 : (0 : Int32).toInt = 0 := rfl; omega), (by have f0 : (0 : Int32).toInt = 0 := rfl; have f1 := i_rg a2; have f2 := i_nlt c3; have f3 := (hs36.2.2.2 c16); have f4 := (hs40.2.2.2 c17); have f5 := i_rg a5; have f6 : (60 : Int32).toInt = 60 := rfl; have f7 := i_rg a4; have f8 := i_nlt c4; have f9 := i_le c5; omega), (by have f0 : (0 : Int32).toInt = 0 := rfl; have f1 := i_rg a3; have f2 := (hs6.2.2.2 c2).1; have f3 := (hs6.2.2.2 c2).2; have f4 := ek6; have f5 : (3 : Int32).toInt = 3 := rfl; have f6 : (1 : Int32).toInt = 1 := rfl; omega), (by have f0 := i_rg a3; have f1 : (3 : Int32).toInt = 3 := rfl; have f2 := (hs6.2.2.2 c2).1; have f3 := (hs6.2.2.2 c2).2; have f4 := ek6; have f5 : (0 : Int32).toInt = 0 := rfl; have f6 : (1 : Int32).toInt = 1 := rfl; omega), (by have f0 : (0 : Int32).toInt = 0 := rfl; have f1 := i_rg a4; have f2 := i_nlt c4; have f3 := (hs40.2.2.2 c17); have f4 := i_rg a5; have f5 : (60 : Int32).toInt = 60 := rfl; have f6 := i_le c5; have f7 := (hs36.2.2.2 c16); have f8 := i_rg a2; have f9 := i_nlt c3; omega), (by have f0 : (0 : Int32).toInt = 0 := rfl; have f1 := i_rg a5; have f2 := i_le c5; have f3 := (hs36.2.2.2 c16); have f4 := (hs40.2.2.2 c17); have f5 := i_rg a2; have f6 : (60 : Int32).toInt = 60 := rfl; have f7 := i_rg a4; have f8 := i_nlt c3; have f9 := i_nlt c4; omega)⟩⟩
                    · refine oq_b (h_X11_refused _ js6.1 (by have f0 : (8 : Int32).toInt = 8 := rfl; omega)) (fun r45 s46 hs46 => ?_)
                      have js46 : JC 47890485652059026823698344598447161988085597568483328 s s46 := j_call js6 hs46.1 rfl
                      refine oq_c (b01_of (by have f0 := hs46.2.1; have f1 := i_rg r45; omega)) ?_
                      exact ⟨js46, (by have f0 := hs46.2.1; have f1 := i_rg r45; omega), fun _ => trivial, fun c9 => False.elim (by have f0 := hs46.2.1; have f1 := i_rg r45; have f2 := i_ne c9; have f3 : (0 : Int32).toInt = 0 := rfl; omega)⟩
              · refine oq_if (fun c18 => ?_) (fun c18 => ?_)
                · refine oq_b (h_X11_refused _ js6.1 (by have f0 : (2 : Int32).toInt = 2 := rfl; omega)) (fun r47 s48 hs48 => ?_)
                  have js48 : JC 47890485652059026823698344598447161988085597568483328 s s48 := j_call js6 hs48.1 rfl
                  refine oq_c (b01_of (by have f0 := hs48.2.1; have f1 := i_rg r47; omega)) ?_
                  exact ⟨js48, (by have f0 := hs48.2.1; have f1 := i_rg r47; omega), fun _ => trivial, fun c9 => False.elim (by have f0 := hs48.2.1; have f1 := i_rg r47; have f2 := i_ne c9; have f3 : (0 : Int32).toInt = 0 := rfl; omega)⟩
                · refine oq_if (fun c19 => ?_) (fun c19 => ?_)
                  · refine oq_b (h_X11_refused _ js6.1 (by have f0 : (2 : Int32).toInt = 2 := rfl; omega)) (fun r49 s50 hs50 => ?_)
                    have js50 : JC 47890485652059026823698344598447161988085597568483328 s s50 := j_call js6 hs50.1 rfl
                    refine oq_c (b01_of (by have f0 := hs50.2.1; have f1 := i_rg r49; omega)) ?_
                    exact ⟨js50, (by have f0 := hs50.2.1; have f1 := i_rg r49; omega), fun _ => trivial, fun c9 => False.elim (by have f0 := hs50.2.1; have f1 := i_rg r49; have f2 := i_ne c9; have f3 : (0 : Int32).toInt = 0 := rfl; omega)⟩
                  · refine oq_if (fun c20 => ?_) (fun c20 => ?_)
                    · refine oq_b (h_X8_reachesTo_10 _ _ js6.1 (by have f0 := i_rg a2; have f1 := i_nlt c3; have f2 : (0 : Int32).toInt = 0 := rfl; omega) (by have f0 := i_rg a5; have f1 := i_le c5; have f2 : (0 : Int32).toInt = 0 := rfl; omega)) (fun r51 s52 hs52 => ?_)
                      have js52 : JC 47890485652059026823698344598447161988085597568483328 s s52 := j_call js6 hs52.1 rfl
                      refine oq_if (fun c21 => ?_) (fun c21 => ?_)
                      · refine oq_b (h_X11_refused _ js52.1 (by have f0 : (3 : Int32).toInt = 3 := rfl; omega)) (fun r53 s54 hs54 => ?_)
                        have js54 : JC 47890485652059026823698344598447161988085597568483328 s s54 := j_call js52 hs54.1 rfl
                        refine oq_c (b01_of (by have f0 := hs54.2.1; have f1 := i_rg r53; omega)) ?_
                        exact ⟨js54, (by have f0 := hs54.2.1; have f1 := i_rg r53; omega), fun _ => trivial, fun c9 => False.elim (by have f0 := hs54.2.1; have f1 := i_rg r53; have f2 := i_ne c9; have f3 : (0 : Int32).toInt = 0 := rfl; omega)⟩
                      · refine oq_b (h_X8_reachesTo_12 _ _ js52.1 (by have f0 := i_rg a4; have f1 := i_nlt c4; have f2 : (0 : Int32).toInt = 0 := rfl; omega) (by have f0 := i_rg a5; have f1 := i_le c5; have f2 := (hs52.2.2.2 c21); have f3 : (0 : Int32).toInt = 0 := rfl; have f4 := i_rg a2; have f5 : (60 : Int32).toInt = 60 := rfl; have f6 := i_nlt c3; omega)) (fun r55 s56 hs56 => ?_)
                        have js56 : JC 47890485652059026823698344598447161988085597568483328 s s56 := j_call js52 hs56.1 rfl
                        refine oq_if (fun c22 => ?_) (fun c22 => ?_)
                        · refine oq_b (h_X11_refused _ js56.1 (by have f0 : (3 : Int32).toInt = 3 := rfl; omega)) (fun r57 s58 hs58 => ?_)
                          have js58 : JC 47890485652059026823698344598447161988085597568483328 s s58 := j_call js56 hs58.1 rfl
                          refine oq_c (b01_of (by have f0 := hs58.2.1; have f1 := i_rg r57; omega)) ?_
                          exact ⟨js58, (by have f0 := hs58.2.1; have f1 := i_rg r57; omega), fun _ => trivial, fun c9 => False.elim (by have f0 := hs58.2.1; have f1 := i_rg r57; have f2 := i_ne c9; have f3 : (0 : Int32).toInt = 0 := rfl; omega)⟩
                        · refine oq_c ⟨(nlt_of (by have f0 := i_rg a2; have f1 := i_nlt c3; have f2 := (hs52.2.2.2 c21); have f3 := (hs56.2.2.2 c22); have f4 : (0 : Int32).toInt = 0 := rfl; have f5 := i_rg a5; have f6 : (60 : Int32).toInt = 60 := rfl; have f7 := i_rg a4; have f8 := i_nlt c4; have f9 := i_le c5; omega)), (nlt_of (by have f0 := i_rg a4; have f1 := i_nlt c4; have f2 := (hs56.2.2.2 c22); have f3 : (0 : Int32).toInt = 0 := rfl; have f4 := i_rg a5; have f5 : (60 : Int32).toInt = 60 := rfl; have f6 := i_le c5; have f7 := (hs52.2.2.2 c21); have f8 := i_rg a2; have f9 := i_nlt c3; omega)), (nlt_of (by have f0 := i_rg a5; have f1 := i_le c5; have f2 := (hs52.2.2.2 c21); have f3 := (hs56.2.2.2 c22); have f4 : (0 : Int32).toInt = 0 := rfl; have f5 := i_rg a2; have f6 : (60 : Int32).toInt = 60 := rfl; have f7 := i_rg a4; have f8 := i_nlt c3; have f9 := i_nlt c4; omega)), (by have f0 := i_rg a2; have f1 := i_rg a5; have f2 := i_nlt c3; have f3 := i_le c5; have f4 := (hs52.2.2.2 c21); have f5 := (hs56.2.2.2 c22); have f6 : (0 : Int32).toInt = 0 := rfl; have f7 : (60 : Int32).toInt = 60 := rfl; have f8 := i_rg a4; have f9 := i_nlt c4; have f10 := cl_nat (a2); have f11 := cl_nat (a5); omega), (by have f0 := i_rg a4; have f1 := i_rg a5; have f2 := i_nlt c4; have f3 := i_le c5; have f4 := (hs52.2.2.2 c21); have f5 := (hs56.2.2.2 c22); have f6 : (0 : Int32).toInt = 0 := rfl; have f7 := i_rg a2; have f8 : (60 : Int32).toInt = 60 := rfl; have f9 := i_nlt c3; have f10 := cl_nat (a4); have f11 := cl_nat (a5); omega)⟩ ?_
                          refine oq_b (h_X11_granted  (j_cb js56 16 (fun _ => rfl) rfl).1) (fun r59 s60 hs60 => ?_)
                          have js60 : JC 47890485652059026823698344598447161988085597568483328 s s60 := j_call (j_cb js56 16 (fun _ => rfl) rfl) hs60.1 rfl
                          refine oq_c (b01_of (by have f0 := hs60.2.1; have f1 := i_rg r59; omega)) ?_
                          exact ⟨js60, (by have f0 := hs60.2.1; have f1 := i_rg r59; omega), fun c9 => False.elim (by have f0 := hs60.2.1; have f1 := i_rg r59; have f2 := i_eq c9; have f3 : (0 : Int32).toInt = 0 := rfl; omega), fun c9 => ⟨(by have f0 : (0 : Int32).toInt = 0 := rfl; have f1 := i_rg a1; have f2 := (hs2.2.2.2 c1).1; have f3 := (hs2.2.2.2 c1).2; have f4 := ek5; have f5 : (3 : Int32).toInt = 3 := rfl; omega), (by have f0 := i_rg a1; have f1 : (3 : Int32).toInt = 3 := rfl; have f2 := (hs2.2.2.2 c1).1; have f3 := (hs2.2.2.2 c1).2; have f4 := ek5; have f5 : (0 : Int32).toInt = 0 := rfl; omega), (by have f0 : (0 : Int32).toInt = 0 := rfl; have f1 := i_rg a2; have f2 := i_nlt c3; have f3 := (hs52.2.2.2 c21); have f4 := (hs56.2.2.2 c22); have f5 := i_rg a5; have f6 : (60 : Int32).toInt = 60 := rfl; have f7 := i_rg a4; have f8 := i_nlt c4; have f9 := i_le c5; omega), (by have f0 : (0 : Int32).toInt = 0 := rfl; have f1 := i_rg a3; have f2 := (hs6.2.2.2 c2).1; have f3 := (hs6.2.2.2 c2).2; have f4 := ek6; have f5 : (3 : Int32).toInt = 3 := rfl; have f6 : (2 : Int32).toInt = 2 := rfl; omega), (by have f0 := i_rg a3; have f1 : (3 : Int32).toInt = 3 := rfl; have f2 := (hs6.2.2.2 c2).1; have f3 := (hs6.2.2.2 c2).2; have f4 := ek6; have f5 : (0 : Int32).toInt = 0 := rfl; have f6 : (2 : Int32).toInt = 2 := rfl; omega), (by have f0 : (0 : Int32).toInt = 0 := rfl; have f1 := i_rg a4; have f2 := i_nlt c4; have f3 := (hs56.2.2.2 c22); have f4 := i_rg a5; have f5 : (60 : Int32).toInt = 60 := rfl; have f6 := i_le c5; have f7 := (hs52.2.2.2 c21); have f8 := i_rg a2; have f9 := i_nlt c3; omega), (by have f0 : (0 : Int32).toInt = 0 := rfl; have f1 := i_rg a5; have f2 := i_le c5; have f3 := (hs52.2.2.2 c21); have f4 := (hs56.2.2.2 c22); have f5 := i_rg a2; have f6 : (60 : Int32).toInt = 60 := rfl; have f7 := i_rg a4; have f8 := i_nlt c3; have f9 := i_nlt c4; omega)⟩⟩
                    · refine oq_b (h_X11_refused _ js6.1 (by have f0 : (8 : Int32).toInt = 8 := rfl; omega)) (fun r61 s62 hs62 => ?_)
                      have js62 : JC 47890485652059026823698344598447161988085597568483328 s s62 := j_call js6 hs62.1 rfl
                      refine oq_c (b01_of (by have f0 := hs62.2.1; have f1 := i_rg r61; omega)) ?_
                      exact ⟨js62, (by have f0 := hs62.2.1; have f1 := i_rg r61; omega), fun _ => trivial, fun c9 => False.elim (by have f0 := hs62.2.1; have f1 := i_rg r61; have f2 := i_ne c9; have f3 : (0 : Int32).toInt = 0 := rfl; omega)⟩
              · refine oq_if (fun c23 => ?_) (fun c23 => ?_)
                · refine oq_b (h_X11_refused _ js6.1 (by have f0 : (2 : Int32).toInt = 2 := rfl; omega)) (fun r63 s64 hs64 => ?_)
                  have js64 : JC 47890485652059026823698344598447161988085597568483328 s s64 := j_call js6 hs64.1 rfl
                  refine oq_c (b01_of (by have f0 := hs64.2.1; have f1 := i_rg r63; omega)) ?_
                  exact ⟨js64, (by have f0 := hs64.2.1; have f1 := i_rg r63; omega), fun _ => trivial, fun c9 => False.elim (by have f0 := hs64.2.1; have f1 := i_rg r63; have f2 := i_ne c9; have f3 : (0 : Int32).toInt = 0 := rfl; omega)⟩
                · refine oq_if (fun c24 => ?_) (fun c24 => ?_)
                  · refine oq_b (h_X11_refused _ js6.1 (by have f0 : (2 : Int32).toInt = 2 := rfl; omega)) (fun r65 s66 hs66 => ?_)
                    have js66 : JC 47890485652059026823698344598447161988085597568483328 s s66 := j_call js6 hs66.1 rfl
                    refine oq_c (b01_of (by have f0 := hs66.2.1; have f1 := i_rg r65; omega)) ?_
                    exact ⟨js66, (by have f0 := hs66.2.1; have f1 := i_rg r65; omega), fun _ => trivial, fun c9 => False.elim (by have f0 := hs66.2.1; have f1 := i_rg r65; have f2 := i_ne c9; have f3 : (0 : Int32).toInt = 0 := rfl; omega)⟩
                  · refine oq_if (fun c25 => ?_) (fun c25 => ?_)
                    · refine oq_b (h_X8_reachesTo_10 _ _ js6.1 (by have f0 := i_rg a2; have f1 := i_nlt c3; have f2 : (0 : Int32).toInt = 0 := rfl; omega) (by have f0 := i_rg a5; have f1 := i_le c5; have f2 : (0 : Int32).toInt = 0 := rfl; omega)) (fun r67 s68 hs68 => ?_)
                      have js68 : JC 47890485652059026823698344598447161988085597568483328 s s68 := j_call js6 hs68.1 rfl
                      refine oq_if (fun c26 => ?_) (fun c26 => ?_)
                      · refine oq_b (h_X11_refused _ js68.1 (by have f0 : (3 : Int32).toInt = 3 := rfl; omega)) (fun r69 s70 hs70 => ?_)
                        have js70 : JC 47890485652059026823698344598447161988085597568483328 s s70 := j_call js68 hs70.1 rfl
                        refine oq_c (b01_of (by have f0 := hs70.2.1; have f1 := i_rg r69; omega)) ?_
                        exact ⟨js70, (by have f0 := hs70.2.1; have f1 := i_rg r69; omega), fun _ => trivial, fun c9 => False.elim (by have f0 := hs70.2.1; have f1 := i_rg r69; have f2 := i_ne c9; have f3 : (0 : Int32).toInt = 0 := rfl; omega)⟩
                      · refine oq_b (h_X8_reachesTo_13 _ _ js68.1 (by have f0 := i_rg a4; have f1 := i_nlt c4; have f2 : (0 : Int32).toInt = 0 := rfl; omega) (by have f0 := i_rg a5; have f1 := i_le c5; have f2 := (hs68.2.2.2 c26); have f3 : (0 : Int32).toInt = 0 := rfl; have f4 := i_rg a2; have f5 : (60 : Int32).toInt = 60 := rfl; have f6 := i_nlt c3; omega)) (fun r71 s72 hs72 => ?_)
                        have js72 : JC 47890485652059026823698344598447161988085597568483328 s s72 := j_call js68 hs72.1 rfl
                        refine oq_if (fun c27 => ?_) (fun c27 => ?_)
                        · refine oq_b (h_X11_refused _ js72.1 (by have f0 : (3 : Int32).toInt = 3 := rfl; omega)) (fun r73 s74 hs74 => ?_)
                          have js74 : JC 47890485652059026823698344598447161988085597568483328 s s74 := j_call js72 hs74.1 rfl
                          refine oq_c (b01_of (by have f0 := hs74.2.1; have f1 := i_rg r73; omega)) ?_
                          exact ⟨js74, (by have f0 := hs74.2.1; have f1 := i_rg r73; omega), fun _ => trivial, fun c9 => False.elim (by have f0 := hs74.2.1; have f1 := i_rg r73; have f2 := i_ne c9; have f3 : (0 : Int32).toInt = 0 := rfl; omega)⟩
                        · refine oq_c ⟨(nlt_of (by have f0 := i_rg a2; have f1 := i_nlt c3; have f2 := (hs68.2.2.2 c26); have f3 := (hs72.2.2.2 c27); have f4 : (0 : Int32).toInt = 0 := rfl; have f5 := i_rg a5; have f6 : (60 : Int32).toInt = 60 := rfl; have f7 := i_rg a4; have f8 := i_nlt c4; have f9 := i_le c5; omega)), (nlt_of (by have f0 := i_rg a4; have f1 := i_nlt c4; have f2 := (hs72.2.2.2 c27); have f3 : (0 : Int32).toInt = 0 := rfl; have f4 := i_rg a5; have f5 : (60 : Int32).toInt = 60 := rfl; have f6 := i_le c5; have f7 := (hs68.2.2.2 c26); have f8 := i_rg a2; have f9 := i_nlt c3; omega)), (nlt_of (by have f0 := i_rg a5; have f1 := i_le c5; have f2 := (hs68.2.2.2 c26); have f3 := (hs72.2.2.2 c27); have f4 : (0 : Int32).toInt = 0 := rfl; have f5 := i_rg a2; have f6 : (60 : Int32).toInt = 60 := rfl; have f7 := i_rg a4; have f8 := i_nlt c3; have f9 := i_nlt c4; omega)), (by have f0 := i_rg a2; have f1 := i_rg a5; have f2 := i_nlt c3; have f3 := i_le c5; have f4 := (hs68.2.2.2 c26); have f5 := (hs72.2.2.2 c27); have f6 : (0 : Int32).toInt = 0 := rfl; have f7 : (60 : Int32).toInt = 60 := rfl; have f8 := i_rg a4; have f9 := i_nlt c4; have f10 := cl_nat (a2); have f11 := cl_nat (a5); omega), (by have f0 := i_rg a4; have f1 := i_rg a5; have f2 := i_nlt c4; have f3 := i_le c5; have f4 := (hs68.2.2.2 c26); have f5 := (hs72.2.2.2 c27); have f6 : (0 : Int32).toInt = 0 := rfl; have f7 := i_rg a2; have f8 : (60 : Int32).toInt = 60 := rfl; have f9 := i_nlt c3; have f10 := cl_nat (a4); have f11 := cl_nat (a5); omega)⟩ ?_
                          refine oq_b (h_X11_granted  (j_cb js72 17 (fun _ => rfl) rfl).1) (fun r75 s76 hs76 => ?_)
                          have js76 : JC 47890485652059026823698344598447161988085597568483328 s s76 := j_call (j_cb js72 17 (fun _ => rfl) rfl) hs76.1 rfl
                          refine oq_c (b01_of (by have f0 := hs76.2.1; have f1 := i_rg r75; omega)) ?_
                          exact ⟨js76, (by have f0 := hs76.2.1; have f1 := i_rg r75; omega), fun c9 => False.elim (by have f0 := hs76.2.1; have f1 := i_rg r75; have f2 := i_eq c9; have f3 : (0 : Int32).toInt = 0 := rfl; omega), fun c9 => ⟨(by have f0 : (0 : Int32).toInt = 0 := rfl; have f1 := i_rg a1; have f2 := (hs2.2.2.2 c1).1; have f3 := (hs2.2.2.2 c1).2; have f4 := ek5; have f5 : (3 : Int32).toInt = 3 := rfl; omega), (by have f0 := i_rg a1; have f1 : (3 : Int32).toInt = 3 := rfl; have f2 := (hs2.2.2.2 c1).1; have f3 := (hs2.2.2.2 c1).2; have f4 := ek5; have f5 : (0 : Int32).toInt = 0 := rfl; omega), (by have f0 : (0 : Int32).toInt = 0 := rfl; have f1 := i_rg a2; have f2 := i_nlt c3; have f3 := (hs68.2.2.2 c26); have f4 := (hs72.2.2.2 c27); have f5 := i_rg a5; have f6 : (60 : Int32).toInt = 60 := rfl; have f7 := i_rg a4; have f8 := i_nlt c4; have f9 := i_le c5; omega), (by have f0 : (0 : Int32).toInt = 0 := rfl; have f1 := i_rg a3; have f2 := (hs6.2.2.2 c2).1; have f3 := (hs6.2.2.2 c2).2; have f4 := ek6; have f5 : (3 : Int32).toInt = 3 := rfl; omega), (by have f0 := i_rg a3; have f1 : (3 : Int32).toInt = 3 := rfl; have f2 := (hs6.2.2.2 c2).1; have f3 := (hs6.2.2.2 c2).2; have f4 := ek6; have f5 : (0 : Int32).toInt = 0 := rfl; omega), (by have f0 : (0 : Int32).toInt = 0 := rfl; have f1 := i_rg a4; have f2 := i_nlt c4; have f3 := (hs72.2.2.2 c27); have f4 := i_rg a5; have f5 : (60 : Int32).toInt = 60 := rfl; have f6 := i_le c5; have f7 := (hs68.2.2.2 c26); have f8 := i_rg a2; have f9 := i_nlt c3; omega), (by have f0 : (0 : Int32).toInt = 0 := rfl; have f1 := i_rg a5; have f2 := i_le c5; have f3 := (hs68.2.2.2 c26); have f4 := (hs72.2.2.2 c27); have f5 := i_rg a2; have f6 : (60 : Int32).toInt = 60 := rfl; have f7 := i_rg a4; have f8 := i_nlt c3; have f9 := i_nlt c4; omega)⟩⟩
                    · refine oq_b (h_X11_refused _ js6.1 (by have f0 : (8 : Int32).toInt = 8 := rfl; omega)) (fun r77 s78 hs78 => ?_)
                      have js78 : JC 47890485652059026823698344598447161988085597568483328 s s78 := j_call js6 hs78.1 rfl
                      refine oq_c (b01_of (by have f0 := hs78.2.1; have f1 := i_rg r77; omega)) ?_
                      exact ⟨js78, (by have f0 := hs78.2.1; have f1 := i_rg r77; omega), fun _ => trivial, fun c9 => False.elim (by have f0 := hs78.2.1; have f1 := i_rg r77; have f2 := i_ne c9; have f3 : (0 : Int32).toInt = 0 := rfl; omega)⟩
            · refine oq_c (inr_of (by have f0 := i_rg a3; have f1 := (hs6.2.2.2 c2).1; have f2 := (hs6.2.2.2 c2).2; have f3 : (0 : Int32).toInt = 0 := rfl; have f4 : (3 : Int32).toInt = 3 := rfl; omega)) ?_
              refine oq_s4 (inr_of (by have f0 := i_rg a3; have f1 := (hs6.2.2.2 c2).1; have f2 := (hs6.2.2.2 c2).2; have f3 : (0 : Int32).toInt = 0 := rfl; have f4 : (3 : Int32).toInt = 3 := rfl; omega)) (fun ek27 => ?_) (fun ek27 => ?_) (fun ek27 => ?_) (fun ek27 => ?_)
              · refine oq_if (fun c29 => ?_) (fun c29 => ?_)
                · refine oq_b (h_X11_refused _ js6.1 (by have f0 : (2 : Int32).toInt = 2 := rfl; omega)) (fun r80 s81 hs81 => ?_)
                  have js81 : JC 47890485652059026823698344598447161988085597568483328 s s81 := j_call js6 hs81.1 rfl
                  refine oq_c (b01_of (by have f0 := hs81.2.1; have f1 := i_rg r80; omega)) ?_
                  exact ⟨js81, (by have f0 := hs81.2.1; have f1 := i_rg r80; omega), fun _ => trivial, fun c9 => False.elim (by have f0 := hs81.2.1; have f1 := i_rg r80; have f2 := i_ne c9; have f3 : (0 : Int32).toInt = 0 := rfl; omega)⟩
                · refine oq_if (fun c30 => ?_) (fun c30 => ?_)
                  · refine oq_b (h_X11_refused _ js6.1 (by have f0 : (2 : Int32).toInt = 2 := rfl; omega)) (fun r82 s83 hs83 => ?_)
                    have js83 : JC 47890485652059026823698344598447161988085597568483328 s s83 := j_call js6 hs83.1 rfl
                    refine oq_c (b01_of (by have f0 := hs83.2.1; have f1 := i_rg r82; omega)) ?_
                    exact ⟨js83, (by have f0 := hs83.2.1; have f1 := i_rg r82; omega), fun _ => trivial, fun c9 => False.elim (by have f0 := hs83.2.1; have f1 := i_rg r82; have f2 := i_ne c9; have f3 : (0 : Int32).toInt = 0 := rfl; omega)⟩
                  · refine oq_if (fun c31 => ?_) (fun c31 => ?_)
                    · refine oq_b (h_X8_reachesTo_11 _ _ js6.1 (by have f0 := i_rg a2; have f1 := i_nlt c3; have f2 : (0 : Int32).toInt = 0 := rfl; omega) (by have f0 := i_rg a5; have f1 := i_le c5; have f2 : (0 : Int32).toInt = 0 := rfl; omega)) (fun r84 s85 hs85 => ?_)
                      have js85 : JC 47890485652059026823698344598447161988085597568483328 s s85 := j_call js6 hs85.1 rfl
                      refine oq_if (fun c32 => ?_) (fun c32 => ?_)
                      · refine oq_b (h_X11_refused _ js85.1 (by have f0 : (3 : Int32).toInt = 3 := rfl; omega)) (fun r86 s87 hs87 => ?_)
                        have js87 : JC 47890485652059026823698344598447161988085597568483328 s s87 := j_call js85 hs87.1 rfl
                        refine oq_c (b01_of (by have f0 := hs87.2.1; have f1 := i_rg r86; omega)) ?_
                        exact ⟨js87, (by have f0 := hs87.2.1; have f1 := i_rg r86; omega), fun _ => trivial, fun c9 => False.elim (by have f0 := hs87.2.1; have f1 := i_rg r86; have f2 := i_ne c9; have f3 : (0 : Int32).toInt = 0 := rfl; omega)⟩
                      · refine oq_b (h_X8_reachesTo_10 _ _ js85.1 (by have f0 := i_rg a4; have f1 := i_nlt c4; have f2 : (0 : Int32).toInt = 0 := rfl; omega) (by have f0 := i_rg a5; have f1 := i_le c5; have f2 := (hs85.2.2.2 c32); have f3 : (0 : Int32).toInt = 0 := rfl; have f4 := i_rg a2; have f5 : (60 : Int32).toInt = 60 := rfl; have f6 := i_nlt c3; omega)) (fun r88 s89 hs89 => ?_)
                        have js89 : JC 47890485652059026823698344598447161988085597568483328 s s89 := j_call js85 hs89.1 rfl
                        refine oq_if (fun c33 => ?_) (fun c33 => ?_)
                        · refine oq_b (h_X11_refused _ js89.1 (by have f0 : (3 : Int32).toInt = 3 := rfl; omega)) (fun r90 s91 hs91 => ?_)
                          have js91 : JC 47890485652059026823698344598447161988085597568483328 s s91 := j_call js89 hs91.1 rfl
                          refine oq_c (b01_of (by have f0 := hs91.2.1; have f1 := i_rg r90; omega)) ?_
                          exact ⟨js91, (by have f0 := hs91.2.1; have f1 := i_rg r90; omega), fun _ => trivial, fun c9 => False.elim (by have f0 := hs91.2.1; have f1 := i_rg r90; have f2 := i_ne c9; have f3 : (0 : Int32).toInt = 0 := rfl; omega)⟩
                        · refine oq_c ⟨(nlt_of (by have f0 := i_rg a2; have f1 := i_nlt c3; have f2 := (hs85.2.2.2 c32); have f3 := (hs89.2.2.2 c33); have f4 : (0 : Int32).toInt = 0 := rfl; have f5 := i_rg a5; have f6 : (60 : Int32).toInt = 60 := rfl; have f7 := i_rg a4; have f8 := i_nlt c4; have f9 := i_le c5; omega)), (nlt_of (by have f0 := i_rg a4; have f1 := i_nlt c4; have f2 := (hs89.2.2.2 c33); have f3 : (0 : Int32).toInt = 0 := rfl; have f4 := i_rg a5; have f5 : (60 : Int32).toInt = 60 := rfl; have f6 := i_le c5; have f7 := (hs85.2.2.2 c32); have f8 := i_rg a2; have f9 := i_nlt c3; omega)), (nlt_of (by have f0 := i_rg a5; have f1 := i_le c5; have f2 := (hs85.2.2.2 c32); have f3 := (hs89.2.2.2 c33); have f4 : (0 : Int32).toInt = 0 := rfl; have f5 := i_rg a2; have f6 : (60 : Int32).toInt = 60 := rfl; have f7 := i_rg a4; have f8 := i_nlt c3; have f9 := i_nlt c4; omega)), (by have f0 := i_rg a2; have f1 := i_rg a5; have f2 := i_nlt c3; have f3 := i_le c5; have f4 := (hs85.2.2.2 c32); have f5 := (hs89.2.2.2 c33); have f6 : (0 : Int32).toInt = 0 := rfl; have f7 : (60 : Int32).toInt = 60 := rfl; have f8 := i_rg a4; have f9 := i_nlt c4; have f10 := cl_nat (a2); have f11 := cl_nat (a5); omega), (by have f0 := i_rg a4; have f1 := i_rg a5; have f2 := i_nlt c4; have f3 := i_le c5; have f4 := (hs85.2.2.2 c32); have f5 := (hs89.2.2.2 c33); have f6 : (0 : Int32).toInt = 0 := rfl; have f7 := i_rg a2; have f8 : (60 : Int32).toInt = 60 := rfl; have f9 := i_nlt c3; have f10 := cl_nat (a4); have f11 := cl_nat (a5); omega)⟩ ?_
                          refine oq_b (h_X11_granted  (j_cb js89 14 (fun _ => rfl) rfl).1) (fun r92 s93 hs93 => ?_)
                          have js93 : JC 47890485652059026823698344598447161988085597568483328 s s93 := j_call (j_cb js89 14 (fun _ => rfl) rfl) hs93.1 rfl
                          refine oq_c (b01_of (by have f0 := hs93.2.1; have f1 := i_rg r92; omega)) ?_
                          exact ⟨js93, (by have f0 := hs93.2.1; have f1 := i_rg r92; omega), fun c9 => False.elim (by have f0 := hs93.2.1; have f1 := i_rg r92; have f2 := i_eq c9; have f3 : (0 : Int32).toInt = 0 := rfl; omega), fun c9 => ⟨(by have f0 : (0 : Int32).toInt = 0 := rfl; have f1 := i_rg a1; have f2 := (hs2.2.2.2 c1).1; have f3 := (hs2.2.2.2 c1).2; have f4 := ek5; have f5 : (3 : Int32).toInt = 3 := rfl; have f6 : (1 : Int32).toInt = 1 := rfl; omega), (by have f0 := i_rg a1; have f1 : (3 : Int32).toInt = 3 := rfl; have f2 := (hs2.2.2.2 c1).1; have f3 := (hs2.2.2.2 c1).2; have f4 := ek5; have f5 : (0 : Int32).toInt = 0 := rfl; have f6 : (1 : Int32).toInt = 1 := rfl; omega), (by have f0 : (0 : Int32).toInt = 0 := rfl; have f1 := i_rg a2; have f2 := i_nlt c3; have f3 := (hs85.2.2.2 c32); have f4 := (hs89.2.2.2 c33); have f5 := i_rg a5; have f6 : (60 : Int32).toInt = 60 := rfl; have f7 := i_rg a4; have f8 := i_nlt c4; have f9 := i_le c5; omega), (by have f0 : (0 : Int32).toInt = 0 := rfl; have f1 := i_rg a3; have f2 := (hs6.2.2.2 c2).1; have f3 := (hs6.2.2.2 c2).2; have f4 := ek27; have f5 : (3 : Int32).toInt = 3 := rfl; omega), (by have f0 := i_rg a3; have f1 : (3 : Int32).toInt = 3 := rfl; have f2 := (hs6.2.2.2 c2).1; have f3 := (hs6.2.2.2 c2).2; have f4 := ek27; have f5 : (0 : Int32).toInt = 0 := rfl; omega), (by have f0 : (0 : Int32).toInt = 0 := rfl; have f1 := i_rg a4; have f2 := i_nlt c4; have f3 := (hs89.2.2.2 c33); have f4 := i_rg a5; have f5 : (60 : Int32).toInt = 60 := rfl; have f6 := i_le c5; have f7 := (hs85.2.2.2 c32); have f8 := i_rg a2; have f9 := i_nlt c3; omega), (by have f0 : (0 : Int32).toInt = 0 := rfl; have f1 := i_rg a5; have f2 := i_le c5; have f3 := (hs85.2.2.2 c32); have f4 := (hs89.2.2.2 c33); have f5 := i_rg a2; have f6 : (60 : Int32).toInt = 60 := rfl; have f7 := i_rg a4; have f8 := i_nlt c3; have f9 := i_nlt c4; omega)⟩⟩
                    · refine oq_b (h_X11_refused _ js6.1 (by have f0 : (8 : Int32).toInt = 8 := rfl; omega)) (fun r94 s95 hs95 => ?_)
                      have js95 : JC 47890485652059026823698344598447161988085597568483328 s s95 := j_call js6 hs95.1 rfl
                      refine oq_c (b01_of (by have f0 := hs95.2.1; have f1 := i_rg r94; omega)) ?_
                      exact ⟨js95, (by have f0 := hs95.2.1; have f1 := i_rg r94; omega), fun _ => trivial, fun c9 => False.elim (by have f0 := hs95.2.1; have f1 := i_rg r94; have f2 := i_ne c9; have f3 : (0 : Int32).toInt = 0 := rfl; omega)⟩
              · refine oq_if (fun c34 => ?_) (fun c34 => ?_)
                · refine oq_b (h_X11_refused _ js6.1 (by have f0 : (2 : Int32).toInt = 2 := rfl; omega)) (fun r96 s97 hs97 => ?_)
                  have js97 : JC 47890485652059026823698344598447161988085597568483328 s s97 := j_call js6 hs97.1 rfl
                  refine oq_c (b01_of (by have f0 := hs97.2.1; have f1 := i_rg r96; omega)) ?_
                  exact ⟨js97, (by have f0 := hs97.2.1; have f1 := i_rg r96; omega), fun _ => trivial, fun c9 => False.elim (by have f0 := hs97.2.1; have f1 := i_rg r96; have f2 := i_ne c9; have f3 : (0 : Int32).toInt = 0 := rfl; omega)⟩
                · refine oq_if (fun c35 => ?_) (fun c35 => ?_)
                  · exact False.elim (by have f0 := j_rd js6 11 1 rfl; have f1 : (s6.1 11 1).toInt = (s2.1 11 1).toInt := j_fr hs6.1 11 1 11 rfl rfl; have f2 : (0 : Int32).toInt = 0 := rfl; have f3 := j_rd js2 11 1 rfl; have f4 : (s2.1 11 1).toInt = (s.1 11 1).toInt := j_fr hs2.1 11 1 11 rfl rfl; have f5 := j_rd hJ 11 1 rfl; have f6 := i_ne c34; have f7 := i_eq c35; omega)
                  · refine oq_if (fun c36 => ?_) (fun c36 => ?_)
                    · refine oq_b (h_X8_reachesTo_11 _ _ js6.1 (by have f0 := i_rg a2; have f1 := i_nlt c3; have f2 : (0 : Int32).toInt = 0 := rfl; omega) (by have f0 := i_rg a5; have f1 := i_le c5; have f2 : (0 : Int32).toInt = 0 := rfl; omega)) (fun r100 s101 hs101 => ?_)
                      have js101 : JC 47890485652059026823698344598447161988085597568483328 s s101 := j_call js6 hs101.1 rfl
                      refine oq_if (fun c37 => ?_) (fun c37 => ?_)
                      · refine oq_b (h_X11_refused _ js101.1 (by have f0 : (3 : Int32).toInt = 3 := rfl; omega)) (fun r102 s103 hs103 => ?_)
                        have js103 : JC 47890485652059026823698344598447161988085597568483328 s s103 := j_call js101 hs103.1 rfl
                        refine oq_c (b01_of (by have f0 := hs103.2.1; have f1 := i_rg r102; omega)) ?_
                        exact ⟨js103, (by have f0 := hs103.2.1; have f1 := i_rg r102; omega), fun _ => trivial, fun c9 => False.elim (by have f0 := hs103.2.1; have f1 := i_rg r102; have f2 := i_ne c9; have f3 : (0 : Int32).toInt = 0 := rfl; omega)⟩
                      · refine oq_b (h_X8_reachesTo_11 _ _ js101.1 (by have f0 := i_rg a4; have f1 := i_nlt c4; have f2 : (0 : Int32).toInt = 0 := rfl; omega) (by have f0 := i_rg a5; have f1 := i_le c5; have f2 := (hs101.2.2.2 c37); have f3 : (0 : Int32).toInt = 0 := rfl; have f4 := i_rg a2; have f5 : (60 : Int32).toInt = 60 := rfl; have f6 := i_nlt c3; omega)) (fun r104 s105 hs105 => ?_)
                        have js105 : JC 47890485652059026823698344598447161988085597568483328 s s105 := j_call js101 hs105.1 rfl
                        refine oq_if (fun c38 => ?_) (fun c38 => ?_)
                        · refine oq_b (h_X11_refused _ js105.1 (by have f0 : (3 : Int32).toInt = 3 := rfl; omega)) (fun r106 s107 hs107 => ?_)
                          have js107 : JC 47890485652059026823698344598447161988085597568483328 s s107 := j_call js105 hs107.1 rfl
                          refine oq_c (b01_of (by have f0 := hs107.2.1; have f1 := i_rg r106; omega)) ?_
                          exact ⟨js107, (by have f0 := hs107.2.1; have f1 := i_rg r106; omega), fun _ => trivial, fun c9 => False.elim (by have f0 := hs107.2.1; have f1 := i_rg r106; have f2 := i_ne c9; have f3 : (0 : Int32).toInt = 0 := rfl; omega)⟩
                        · refine oq_c ⟨(nlt_of (by have f0 := i_rg a2; have f1 := i_nlt c3; have f2 := (hs101.2.2.2 c37); have f3 := (hs105.2.2.2 c38); have f4 : (0 : Int32).toInt = 0 := rfl; have f5 := i_rg a5; have f6 : (60 : Int32).toInt = 60 := rfl; have f7 := i_rg a4; have f8 := i_nlt c4; have f9 := i_le c5; omega)), (nlt_of (by have f0 := i_rg a4; have f1 := i_nlt c4; have f2 := (hs105.2.2.2 c38); have f3 : (0 : Int32).toInt = 0 := rfl; have f4 := i_rg a5; have f5 : (60 : Int32).toInt = 60 := rfl; have f6 := i_le c5; have f7 := (hs101.2.2.2 c37); have f8 := i_rg a2; have f9 := i_nlt c3; omega)), (nlt_of (by have f0 := i_rg a5; have f1 := i_le c5; have f2 := (hs101.2.2.2 c37); have f3 := (hs105.2.2.2 c38); have f4 : (0 : Int32).toInt = 0 := rfl; have f5 := i_rg a2; have f6 : (60 : Int32).toInt = 60 := rfl; have f7 := i_rg a4; have f8 := i_nlt c3; have f9 := i_nlt c4; omega)), (by have f0 := i_rg a2; have f1 := i_rg a5; have f2 := i_nlt c3; have f3 := i_le c5; have f4 := (hs101.2.2.2 c37); have f5 := (hs105.2.2.2 c38); have f6 : (0 : Int32).toInt = 0 := rfl; have f7 : (60 : Int32).toInt = 60 := rfl; have f8 := i_rg a4; have f9 := i_nlt c4; have f10 := cl_nat (a2); have f11 := cl_nat (a5); omega), (by have f0 := i_rg a4; have f1 := i_rg a5; have f2 := i_nlt c4; have f3 := i_le c5; have f4 := (hs101.2.2.2 c37); have f5 := (hs105.2.2.2 c38); have f6 : (0 : Int32).toInt = 0 := rfl; have f7 := i_rg a2; have f8 : (60 : Int32).toInt = 60 := rfl; have f9 := i_nlt c3; have f10 := cl_nat (a4); have f11 := cl_nat (a5); omega)⟩ ?_
                          refine oq_b (h_X11_granted  (j_cb js105 15 (fun _ => rfl) rfl).1) (fun r108 s109 hs109 => ?_)
                          have js109 : JC 47890485652059026823698344598447161988085597568483328 s s109 := j_call (j_cb js105 15 (fun _ => rfl) rfl) hs109.1 rfl
                          refine oq_c (b01_of (by have f0 := hs109.2.1; have f1 := i_rg r108; omega)) ?_
                          exact ⟨js109, (by have f0 := hs109.2.1; have f1 := i_rg r108; omega), fun c9 => False.elim (by have f0 := hs109.2.1; have f1 := i_rg r108; have f2 := i_eq c9; have f3 : (0 : Int32).toInt = 0 := rfl; omega), fun c9 => ⟨(by have f0 : (0 : Int32).toInt = 0 := rfl; have f1 := i_rg a1; have f2 := (hs2.2.2.2 c1).1; have f3 := (hs2.2.2.2 c1).2; have f4 := ek5; have f5 : (3 : Int32).toInt = 3 := rfl; have f6 : (1 : Int32).toInt = 1 := rfl; omega), (by have f0 := i_rg a1; have f1 : (3 : Int32).toInt = 3 := rfl; have f2 := (hs2.2.2.2 c1).1; have f3 := (hs2.2.2.2 c1).2; have f4 := ek5; have f5 : (0 : Int32).toInt = 0 := rfl; have f6 : (1 : Int32).toInt = 1 := rfl; omega), (by have f0 : (0 : Int32).toInt = 0 := rfl; have f1 := i_rg a2; have f2 := i_nlt c3; have f3 := (hs101.2.2.2 c37); have f4 := (hs105.2.2.2 c38); have f5 := i_rg a5; have f6 : (60 : Int32).toInt = 60 := rfl; have f7 := i_rg a4; have f8 := i_nlt c4; have f9 := i_le c5; omega), (by have f0 : (0 : Int32).toInt = 0 := rfl; have f1 := i_rg a3; have f2 := (hs6.2.2.2 c2).1; have f3 := (hs6.2.2.2 c2).2; have f4 := ek27; have f5 : (3 : Int32).toInt = 3 := rfl; have f6 : (1 : Int32).toInt = 1 := rfl; omega), (by have f0 := i_rg a3; have f1 : (3 : Int32).toInt = 3 := rfl; have f2 := (hs6.2.2.2 c2).1; have f3 := (hs6.2.2.2 c2).2; have f4 := ek27; have f5 : (0 : Int32).toInt = 0 := rfl; have f6 : (1 : Int32).toInt = 1 := rfl; omega), (by have f0 : (0 : Int32).toInt = 0 := rfl; have f1 := i_rg a4; have f2 := i_nlt c4; have f3 := (hs105.2.2.2 c38); have f4 := i_rg a5; have f5 : (60 : Int32).toInt = 60 := rfl; have f6 := i_le c5; have f7 := (hs101.2.2.2 c37); have f8 := i_rg a2; have f9 := i_nlt c3; omega), (by have f0 : (0 : Int32).toInt = 0 := rfl; have f1 := i_rg a5; have f2 := i_le c5; have f3 := (hs101.2.2.2 c37); have f4 := (hs105.2.2.2 c38); have f5 := i_rg a2; have f6 : (60 : Int32).toInt = 60 := rfl; have f7 := i_rg a4; have f8 := i_nlt c3; have f9 := i_nlt c4; omega)⟩⟩
                    · refine oq_b (h_X11_refused _ js6.1 (by have f0 : (8 : Int32).toInt = 8 := rfl; omega)) (fun r110 s111 hs111 => ?_)
                      have js111 : JC 47890485652059026823698344598447161988085597568483328 s s111 := j_call js6 hs111.1 rfl
                      refine oq_c (b01_of (by have f0 := hs111.2.1; have f1 := i_rg r110; omega)) ?_
                      exact ⟨js111, (by have f0 := hs111.2.1; have f1 := i_rg r110; omega), fun _ => trivial, fun c9 => False.elim (by have f0 := hs111.2.1; have f1 := i_rg r110; have f2 := i_ne c9; have f3 : (0 : Int32).toInt = 0 := rfl; omega)⟩
              · refine oq_if (fun c39 => ?_) (fun c39 => ?_)
                · refine oq_b (h_X11_refused _ js6.1 (by have f0 : (2 : Int32).toInt = 2 := rfl; omega)) (fun r112 s113 hs113 => ?_)
                  have js113 : JC 47890485652059026823698344598447161988085597568483328 s s113 := j_call js6 hs113.1 rfl
                  refine oq_c (b01_of (by have f0 := hs113.2.1; have f1 := i_rg r112; omega)) ?_
                  exact ⟨js113, (by have f0 := hs113.2.1; have f1 := i_rg r112; omega), fun _ => trivial, fun c9 => False.elim (by have f0 := hs113.2.1; have f1 := i_rg r112; have f2 := i_ne c9; have f3 : (0 : Int32).toInt = 0 := rfl; omega)⟩
                · refine oq_if (fun c40 => ?_) (fun c40 => ?_)
                  · refine oq_b (h_X11_refused _ js6.1 (by have f0 : (2 : Int32).toInt = 2 := rfl; omega)) (fun r114 s115 hs115 => ?_)
                    have js115 : JC 47890485652059026823698344598447161988085597568483328 s s115 := j_call js6 hs115.1 rfl
                    refine oq_c (b01_of (by have f0 := hs115.2.1; have f1 := i_rg r114; omega)) ?_
                    exact ⟨js115, (by have f0 := hs115.2.1; have f1 := i_rg r114; omega), fun _ => trivial, fun c9 => False.elim (by have f0 := hs115.2.1; have f1 := i_rg r114; have f2 := i_ne c9; have f3 : (0 : Int32).toInt = 0 := rfl; omega)⟩
                  · refine oq_if (fun c41 => ?_) (fun c41 => ?_)
                    · refine oq_b (h_X8_reachesTo_11 _ _ js6.1 (by have f0 := i_rg a2; have f1 := i_nlt c3; have f2 : (0 : Int32).toInt = 0 := rfl; omega) (by have f0 := i_rg a5; have f1 := i_le c5; have f2 : (0 : Int32).toInt = 0 := rfl; omega)) (fun r116 s117 hs117 => ?_)
                      have js117 : JC 47890485652059026823698344598447161988085597568483328 s s117 := j_call js6 hs117.1 rfl
                      refine oq_if (fun c42 => ?_) (fun c42 => ?_)
                      · refine oq_b (h_X11_refused _ js117.1 (by have f0 : (3 : Int32).toInt = 3 := rfl; omega)) (fun r118 s119 hs119 => ?_)
                        have js119 : JC 47890485652059026823698344598447161988085597568483328 s s119 := j_call js117 hs119.1 rfl
                        refine oq_c (b01_of (by have f0 := hs119.2.1; have f1 := i_rg r118; omega)) ?_
                        exact ⟨js119, (by have f0 := hs119.2.1; have f1 := i_rg r118; omega), fun _ => trivial, fun c9 => False.elim (by have f0 := hs119.2.1; have f1 := i_rg r118; have f2 := i_ne c9; have f3 : (0 : Int32).toInt = 0 := rfl; omega)⟩
                      · refine oq_b (h_X8_reachesTo_12 _ _ js117.1 (by have f0 := i_rg a4; have f1 := i_nlt c4; have f2 : (0 : Int32).toInt = 0 := rfl; omega) (by have f0 := i_rg a5; have f1 := i_le c5; have f2 := (hs117.2.2.2 c42); have f3 : (0 : Int32).toInt = 0 := rfl; have f4 := i_rg a2; have f5 : (60 : Int32).toInt = 60 := rfl; have f6 := i_nlt c3; omega)) (fun r120 s121 hs121 => ?_)
                        have js121 : JC 47890485652059026823698344598447161988085597568483328 s s121 := j_call js117 hs121.1 rfl
                        refine oq_if (fun c43 => ?_) (fun c43 => ?_)
                        · refine oq_b (h_X11_refused _ js121.1 (by have f0 : (3 : Int32).toInt = 3 := rfl; omega)) (fun r122 s123 hs123 => ?_)
                          have js123 : JC 47890485652059026823698344598447161988085597568483328 s s123 := j_call js121 hs123.1 rfl
                          refine oq_c (b01_of (by have f0 := hs123.2.1; have f1 := i_rg r122; omega)) ?_
                          exact ⟨js123, (by have f0 := hs123.2.1; have f1 := i_rg r122; omega), fun _ => trivial, fun c9 => False.elim (by have f0 := hs123.2.1; have f1 := i_rg r122; have f2 := i_ne c9; have f3 : (0 : Int32).toInt = 0 := rfl; omega)⟩
                        · refine oq_c ⟨(nlt_of (by have f0 := i_rg a2; have f1 := i_nlt c3; have f2 := (hs117.2.2.2 c42); have f3 := (hs121.2.2.2 c43); have f4 : (0 : Int32).toInt = 0 := rfl; have f5 := i_rg a5; have f6 : (60 : Int32).toInt = 60 := rfl; have f7 := i_rg a4; have f8 := i_nlt c4; have f9 := i_le c5; omega)), (nlt_of (by have f0 := i_rg a4; have f1 := i_nlt c4; have f2 := (hs121.2.2.2 c43); have f3 : (0 : Int32).toInt = 0 := rfl; have f4 := i_rg a5; have f5 : (60 : Int32).toInt = 60 := rfl; have f6 := i_le c5; have f7 := (hs117.2.2.2 c42); have f8 := i_rg a2; have f9 := i_nlt c3; omega)), (nlt_of (by have f0 := i_rg a5; have f1 := i_le c5; have f2 := (hs117.2.2.2 c42); have f3 := (hs121.2.2.2 c43); have f4 : (0 : Int32).toInt = 0 := rfl; have f5 := i_rg a2; have f6 : (60 : Int32).toInt = 60 := rfl; have f7 := i_rg a4; have f8 := i_nlt c3; have f9 := i_nlt c4; omega)), (by have f0 := i_rg a2; have f1 := i_rg a5; have f2 := i_nlt c3; have f3 := i_le c5; have f4 := (hs117.2.2.2 c42); have f5 := (hs121.2.2.2 c43); have f6 : (0 : Int32).toInt = 0 := rfl; have f7 : (60 : Int32).toInt = 60 := rfl; have f8 := i_rg a4; have f9 := i_nlt c4; have f10 := cl_nat (a2); have f11 := cl_nat (a5); omega), (by have f0 := i_rg a4; have f1 := i_rg a5; have f2 := i_nlt c4; have f3 := i_le c5; have f4 := (hs117.2.2.2 c42); have f5 := (hs121.2.2.2 c43); have f6 : (0 : Int32).toInt = 0 := rfl; have f7 := i_rg a2; have f8 : (60 : Int32).toInt = 60 := rfl; have f9 := i_nlt c3; have f10 := cl_nat (a4); have f11 := cl_nat (a5); omega)⟩ ?_
                          refine oq_b (h_X11_granted  (j_cb js121 16 (fun _ => rfl) rfl).1) (fun r124 s125 hs125 => ?_)
                          have js125 : JC 47890485652059026823698344598447161988085597568483328 s s125 := j_call (j_cb js121 16 (fun _ => rfl) rfl) hs125.1 rfl
                          refine oq_c (b01_of (by have f0 := hs125.2.1; have f1 := i_rg r124; omega)) ?_
                          exact ⟨js125, (by have f0 := hs125.2.1; have f1 := i_rg r124; omega), fun c9 => False.elim (by have f0 := hs125.2.1; have f1 := i_rg r124; have f2 := i_eq c9; have f3 : (0 : Int32).toInt = 0 := rfl; omega), fun c9 => ⟨(by have f0 : (0 : Int32).toInt = 0 := rfl; have f1 := i_rg a1; have f2 := (hs2.2.2.2 c1).1; have f3 := (hs2.2.2.2 c1).2; have f4 := ek5; have f5 : (3 : Int32).toInt = 3 := rfl; have f6 : (1 : Int32).toInt = 1 := rfl; omega), (by have f0 := i_rg a1; have f1 : (3 : Int32).toInt = 3 := rfl; have f2 := (hs2.2.2.2 c1).1; have f3 := (hs2.2.2.2 c1).2; have f4 := ek5; have f5 : (0 : Int32).toInt = 0 := rfl; have f6 : (1 : Int32).toInt = 1 := rfl; omega), (by have f0 : (0 : Int32).toInt = 0 := rfl; have f1 := i_rg a2; have f2 := i_nlt c3; have f3 := (hs117.2.2.2 c42); have f4 := (hs121.2.2.2 c43); have f5 := i_rg a5; have f6 : (60 : Int32).toInt = 60 := rfl; have f7 := i_rg a4; have f8 := i_nlt c4; have f9 := i_le c5; omega), (by have f0 : (0 : Int32).toInt = 0 := rfl; have f1 := i_rg a3; have f2 := (hs6.2.2.2 c2).1; have f3 := (hs6.2.2.2 c2).2; have f4 := ek27; have f5 : (3 : Int32).toInt = 3 := rfl; have f6 : (2 : Int32).toInt = 2 := rfl; omega), (by have f0 := i_rg a3; have f1 : (3 : Int32).toInt = 3 := rfl; have f2 := (hs6.2.2.2 c2).1; have f3 := (hs6.2.2.2 c2).2; have f4 := ek27; have f5 : (0 : Int32).toInt = 0 := rfl; have f6 : (2 : Int32).toInt = 2 := rfl; omega), (by have f0 : (0 : Int32).toInt = 0 := rfl; have f1 := i_rg a4; have f2 := i_nlt c4; have f3 := (hs121.2.2.2 c43); have f4 := i_rg a5; have f5 : (60 : Int32).toInt = 60 := rfl; have f6 := i_le c5; have f7 := (hs117.2.2.2 c42); have f8 := i_rg a2; have f9 := i_nlt c3; omega), (by have f0 : (0 : Int32).toInt = 0 := rfl; have f1 := i_rg a5; have f2 := i_le c5; have f3 := (hs117.2.2.2 c42); have f4 := (hs121.2.2.2 c43); have f5 := i_rg a2; have f6 : (60 : Int32).toInt = 60 := rfl; have f7 := i_rg a4; have f8 := i_nlt c3; have f9 := i_nlt c4; omega)⟩⟩
                    · refine oq_b (h_X11_refused _ js6.1 (by have f0 : (8 : Int32).toInt = 8 := rfl; omega)) (fun r126 s127 hs127 => ?_)
                      have js127 : JC 47890485652059026823698344598447161988085597568483328 s s127 := j_call js6 hs127.1 rfl
                      refine oq_c (b01_of (by have f0 := hs127.2.1; have f1 := i_rg r126; omega)) ?_
                      exact ⟨js127, (by have f0 := hs127.2.1; have f1 := i_rg r126; omega), fun _ => trivial, fun c9 => False.elim (by have f0 := hs127.2.1; have f1 := i_rg r126; have f2 := i_ne c9; have f3 : (0 : Int32).toInt = 0 := rfl; omega)⟩
              · refine oq_if (fun c44 => ?_) (fun c44 => ?_)
                · refine oq_b (h_X11_refused _ js6.1 (by have f0 : (2 : Int32).toInt = 2 := rfl; omega)) (fun r128 s129 hs129 => ?_)
                  have js129 : JC 47890485652059026823698344598447161988085597568483328 s s129 := j_call js6 hs129.1 rfl
                  refine oq_c (b01_of (by have f0 := hs129.2.1; have f1 := i_rg r128; omega)) ?_
                  exact ⟨js129, (by have f0 := hs129.2.1; have f1 := i_rg r128; omega), fun _ => trivial, fun c9 => False.elim (by have f0 := hs129.2.1; have f1 := i_rg r128; have f2 := i_ne c9; have f3 : (0 : Int32).toInt = 0 := rfl; omega)⟩
                · refine oq_if (fun c45 => ?_) (fun c45 => ?_)
                  · refine oq_b (h_X11_refused _ js6.1 (by have f0 : (2 : Int32).toInt = 2 := rfl; omega)) (fun r130 s131 hs131 => ?_)
                    have js131 : JC 47890485652059026823698344598447161988085597568483328 s s131 := j_call js6 hs131.1 rfl
                    refine oq_c (b01_of (by have f0 := hs131.2.1; have f1 := i_rg r130; omega)) ?_
                    exact ⟨js131, (by have f0 := hs131.2.1; have f1 := i_rg r130; omega), fun _ => trivial, fun c9 => False.elim (by have f0 := hs131.2.1; have f1 := i_rg r130; have f2 := i_ne c9; have f3 : (0 : Int32).toInt = 0 := rfl; omega)⟩
                  · refine oq_if (fun c46 => ?_) (fun c46 => ?_)
                    · refine oq_b (h_X8_reachesTo_11 _ _ js6.1 (by have f0 := i_rg a2; have f1 := i_nlt c3; have f2 : (0 : Int32).toInt = 0 := rfl; omega) (by have f0 := i_rg a5; have f1 := i_le c5; have f2 : (0 : Int32).toInt = 0 := rfl; omega)) (fun r132 s133 hs133 => ?_)
                      have js133 : JC 47890485652059026823698344598447161988085597568483328 s s133 := j_call js6 hs133.1 rfl
                      refine oq_if (fun c47 => ?_) (fun c47 => ?_)
                      · refine oq_b (h_X11_refused _ js133.1 (by have f0 : (3 : Int32).toInt = 3 := rfl; omega)) (fun r134 s135 hs135 => ?_)
                        have js135 : JC 47890485652059026823698344598447161988085597568483328 s s135 := j_call js133 hs135.1 rfl
                        refine oq_c (b01_of (by have f0 := hs135.2.1; have f1 := i_rg r134; omega)) ?_
                        exact ⟨js135, (by have f0 := hs135.2.1; have f1 := i_rg r134; omega), fun _ => trivial, fun c9 => False.elim (by have f0 := hs135.2.1; have f1 := i_rg r134; have f2 := i_ne c9; have f3 : (0 : Int32).toInt = 0 := rfl; omega)⟩
                      · refine oq_b (h_X8_reachesTo_13 _ _ js133.1 (by have f0 := i_rg a4; have f1 := i_nlt c4; have f2 : (0 : Int32).toInt = 0 := rfl; omega) (by have f0 := i_rg a5; have f1 := i_le c5; have f2 := (hs133.2.2.2 c47); have f3 : (0 : Int32).toInt = 0 := rfl; have f4 := i_rg a2; have f5 : (60 : Int32).toInt = 60 := rfl; have f6 := i_nlt c3; omega)) (fun r136 s137 hs137 => ?_)
                        have js137 : JC 47890485652059026823698344598447161988085597568483328 s s137 := j_call js133 hs137.1 rfl
                        refine oq_if (fun c48 => ?_) (fun c48 => ?_)
                        · refine oq_b (h_X11_refused _ js137.1 (by have f0 : (3 : Int32).toInt = 3 := rfl; omega)) (fun r138 s139 hs139 => ?_)
                          have js139 : JC 47890485652059026823698344598447161988085597568483328 s s139 := j_call js137 hs139.1 rfl
                          refine oq_c (b01_of (by have f0 := hs139.2.1; have f1 := i_rg r138; omega)) ?_
                          exact ⟨js139, (by have f0 := hs139.2.1; have f1 := i_rg r138; omega), fun _ => trivial, fun c9 => False.elim (by have f0 := hs139.2.1; have f1 := i_rg r138; have f2 := i_ne c9; have f3 : (0 : Int32).toInt = 0 := rfl; omega)⟩
                        · refine oq_c ⟨(nlt_of (by have f0 := i_rg a2; have f1 := i_nlt c3; have f2 := (hs133.2.2.2 c47); have f3 := (hs137.2.2.2 c48); have f4 : (0 : Int32).toInt = 0 := rfl; have f5 := i_rg a5; have f6 : (60 : Int32).toInt = 60 := rfl; have f7 := i_rg a4; have f8 := i_nlt c4; have f9 := i_le c5; omega)), (nlt_of (by have f0 := i_rg a4; have f1 := i_nlt c4; have f2 := (hs137.2.2.2 c48); have f3 : (0 : Int32).toInt = 0 := rfl; have f4 := i_rg a5; have f5 : (60 : Int32).toInt = 60 := rfl; have f6 := i_le c5; have f7 := (hs133.2.2.2 c47); have f8 := i_rg a2; have f9 := i_nlt c3; omega)), (nlt_of (by have f0 := i_rg a5; have f1 := i_le c5; have f2 := (hs133.2.2.2 c47); have f3 := (hs137.2.2.2 c48); have f4 : (0 : Int32).toInt = 0 := rfl; have f5 := i_rg a2; have f6 : (60 : Int32).toInt = 60 := rfl; have f7 := i_rg a4; have f8 := i_nlt c3; have f9 := i_nlt c4; omega)), (by have f0 := i_rg a2; have f1 := i_rg a5; have f2 := i_nlt c3; have f3 := i_le c5; have f4 := (hs133.2.2.2 c47); have f5 := (hs137.2.2.2 c48); have f6 : (0 : Int32).toInt = 0 := rfl; have f7 : (60 : Int32).toInt = 60 := rfl; have f8 := i_rg a4; have f9 := i_nlt c4; have f10 := cl_nat (a2); have f11 := cl_nat (a5); omega), (by have f0 := i_rg a4; have f1 := i_rg a5; have f2 := i_nlt c4; have f3 := i_le c5; have f4 := (hs133.2.2.2 c47); have f5 := (hs137.2.2.2 c48); have f6 : (0 : Int32).toInt = 0 := rfl; have f7 := i_rg a2; have f8 : (60 : Int32).toInt = 60 := rfl; have f9 := i_nlt c3; have f10 := cl_nat (a4); have f11 := cl_nat (a5); omega)⟩ ?_
                          refine oq_b (h_X11_granted  (j_cb js137 17 (fun _ => rfl) rfl).1) (fun r140 s141 hs141 => ?_)
                          have js141 : JC 47890485652059026823698344598447161988085597568483328 s s141 := j_call (j_cb js137 17 (fun _ => rfl) rfl) hs141.1 rfl
                          refine oq_c (b01_of (by have f0 := hs141.2.1; have f1 := i_rg r140; omega)) ?_
                          exact ⟨js141, (by have f0 := hs141.2.1; have f1 := i_rg r140; omega), fun c9 => False.elim (by have f0 := hs141.2.1; have f1 := i_rg r140; have f2 := i_eq c9; have f3 : (0 : Int32).toInt = 0 := rfl; omega), fun c9 => ⟨(by have f0 : (0 : Int32).toInt = 0 := rfl; have f1 := i_rg a1; have f2 := (hs2.2.2.2 c1).1; have f3 := (hs2.2.2.2 c1).2; have f4 := ek5; have f5 : (3 : Int32).toInt = 3 := rfl; have f6 : (1 : Int32).toInt = 1 := rfl; omega), (by have f0 := i_rg a1; have f1 : (3 : Int32).toInt = 3 := rfl; have f2 := (hs2.2.2.2 c1).1; have f3 := (hs2.2.2.2 c1).2; have f4 := ek5; have f5 : (0 : Int32).toInt = 0 := rfl; have f6 : (1 : Int32).toInt = 1 := rfl; omega), (by have f0 : (0 : Int32).toInt = 0 := rfl; have f1 := i_rg a2; have f2 := i_nlt c3; have f3 := (hs133.2.2.2 c47); have f4 := (hs137.2.2.2 c48); have f5 := i_rg a5; have f6 : (60 : Int32).toInt = 60 := rfl; have f7 := i_rg a4; have f8 := i_nlt c4; have f9 := i_le c5; omega), (by have f0 : (0 : Int32).toInt = 0 := rfl; have f1 := i_rg a3; have f2 := (hs6.2.2.2 c2).1; have f3 := (hs6.2.2.2 c2).2; have f4 := ek27; have f5 : (3 : Int32).toInt = 3 := rfl; omega), (by have f0 := i_rg a3; have f1 : (3 : Int32).toInt = 3 := rfl; have f2 := (hs6.2.2.2 c2).1; have f3 := (hs6.2.2.2 c2).2; have f4 := ek27; have f5 : (0 : Int32).toInt = 0 := rfl; omega), (by have f0 : (0 : Int32).toInt = 0 := rfl; have f1 := i_rg a4; have f2 := i_nlt c4; have f3 := (hs137.2.2.2 c48); have f4 := i_rg a5; have f5 : (60 : Int32).toInt = 60 := rfl; have f6 := i_le c5; have f7 := (hs133.2.2.2 c47); have f8 := i_rg a2; have f9 := i_nlt c3; omega), (by have f0 : (0 : Int32).toInt = 0 := rfl; have f1 := i_rg a5; have f2 := i_le c5; have f3 := (hs133.2.2.2 c47); have f4 := (hs137.2.2.2 c48); have f5 := i_rg a2; have f6 : (60 : Int32).toInt = 60 := rfl; have f7 := i_rg a4; have f8 := i_nlt c3; have f9 := i_nlt c4; omega)⟩⟩
                    · refine oq_b (h_X11_refused _ js6.1 (by have f0 : (8 : Int32).toInt = 8 := rfl; omega)) (fun r142 s143 hs143 => ?_)
                      have js143 : JC 47890485652059026823698344598447161988085597568483328 s s143 := j_call js6 hs143.1 rfl
                      refine oq_c (b01_of (by have f0 := hs143.2.1; have f1 := i_rg r142; omega)) ?_
                      exact ⟨js143, (by have f0 := hs143.2.1; have f1 := i_rg r142; omega), fun _ => trivial, fun c9 => False.elim (by have f0 := hs143.2.1; have f1 := i_rg r142; have f2 := i_ne c9; have f3 : (0 : Int32).toInt = 0 := rfl; omega)⟩
            · refine oq_c (inr_of (by have f0 := i_rg a3; have f1 := (hs6.2.2.2 c2).1; have f2 := (hs6.2.2.2 c2).2; have f3 : (0 : Int32).toInt = 0 := rfl; have f4 : (3 : Int32).toInt = 3 := rfl; omega)) ?_
              refine oq_s4 (inr_of (by have f0 := i_rg a3; have f1 := (hs6.2.2.2 c2).1; have f2 := (hs6.2.2.2 c2).2; have f3 : (0 : Int32).toInt = 0 := rfl; have f4 : (3 : Int32).toInt = 3 := rfl; omega)) (fun ek48 => ?_) (fun ek48 => ?_) (fun ek48 => ?_) (fun ek48 => ?_)
              · refine oq_if (fun c50 => ?_) (fun c50 => ?_)
                · refine oq_b (h_X11_refused _ js6.1 (by have f0 : (2 : Int32).toInt = 2 := rfl; omega)) (fun r145 s146 hs146 => ?_)
                  have js146 : JC 47890485652059026823698344598447161988085597568483328 s s146 := j_call js6 hs146.1 rfl
                  refine oq_c (b01_of (by have f0 := hs146.2.1; have f1 := i_rg r145; omega)) ?_
                  exact ⟨js146, (by have f0 := hs146.2.1; have f1 := i_rg r145; omega), fun _ => trivial, fun c9 => False.elim (by have f0 := hs146.2.1; have f1 := i_rg r145; have f2 := i_ne c9; have f3 : (0 : Int32).toInt = 0 := rfl; omega)⟩
                · refine oq_if (fun c51 => ?_) (fun c51 => ?_)
                  · refine oq_b (h_X11_refused _ js6.1 (by have f0 : (2 : Int32).toInt = 2 := rfl; omega)) (fun r147 s148 hs148 => ?_)
                    have js148 : JC 47890485652059026823698344598447161988085597568483328 s s148 := j_call js6 hs148.1 rfl
                    refine oq_c (b01_of (by have f0 := hs148.2.1; have f1 := i_rg r147; omega)) ?_
                    exact ⟨js148, (by have f0 := hs148.2.1; have f1 := i_rg r147; omega), fun _ => trivial, fun c9 => False.elim (by have f0 := hs148.2.1; have f1 := i_rg r147; have f2 := i_ne c9; have f3 : (0 : Int32).toInt = 0 := rfl; omega)⟩
                  · refine oq_if (fun c52 => ?_) (fun c52 => ?_)
                    · refine oq_b (h_X8_reachesTo_12 _ _ js6.1 (by have f0 := i_rg a2; have f1 := i_nlt c3; have f2 : (0 : Int32).toInt = 0 := rfl; omega) (by have f0 := i_rg a5; have f1 := i_le c5; have f2 : (0 : Int32).toInt = 0 := rfl; omega)) (fun r149 s150 hs150 => ?_)
                      have js150 : JC 47890485652059026823698344598447161988085597568483328 s s150 := j_call js6 hs150.1 rfl
                      refine oq_if (fun c53 => ?_) (fun c53 => ?_)
                      · refine oq_b (h_X11_refused _ js150.1 (by have f0 : (3 : Int32).toInt = 3 := rfl; omega)) (fun r151 s152 hs152 => ?_)
                        have js152 : JC 47890485652059026823698344598447161988085597568483328 s s152 := j_call js150 hs152.1 rfl
                        refine oq_c (b01_of (by have f0 := hs152.2.1; have f1 := i_rg r151; omega)) ?_
                        exact ⟨js152, (by have f0 := hs152.2.1; have f1 := i_rg r151; omega), fun _ => trivial, fun c9 => False.elim (by have f0 := hs152.2.1; have f1 := i_rg r151; have f2 := i_ne c9; have f3 : (0 : Int32).toInt = 0 := rfl; omega)⟩
                      · refine oq_b (h_X8_reachesTo_10 _ _ js150.1 (by have f0 := i_rg a4; have f1 := i_nlt c4; have f2 : (0 : Int32).toInt = 0 := rfl; omega) (by have f0 := i_rg a5; have f1 := i_le c5; have f2 := (hs150.2.2.2 c53); have f3 : (0 : Int32).toInt = 0 := rfl; have f4 := i_rg a2; have f5 : (60 : Int32).toInt = 60 := rfl; have f6 := i_nlt c3; omega)) (fun r153 s154 hs154 => ?_)
                        have js154 : JC 47890485652059026823698344598447161988085597568483328 s s154 := j_call js150 hs154.1 rfl
                        refine oq_if (fun c54 => ?_) (fun c54 => ?_)
                        · refine oq_b (h_X11_refused _ js154.1 (by have f0 : (3 : Int32).toInt = 3 := rfl; omega)) (fun r155 s156 hs156 => ?_)
                          have js156 : JC 47890485652059026823698344598447161988085597568483328 s s156 := j_call js154 hs156.1 rfl
                          refine oq_c (b01_of (by have f0 := hs156.2.1; have f1 := i_rg r155; omega)) ?_
                          exact ⟨js156, (by have f0 := hs156.2.1; have f1 := i_rg r155; omega), fun _ => trivial, fun c9 => False.elim (by have f0 := hs156.2.1; have f1 := i_rg r155; have f2 := i_ne c9; have f3 : (0 : Int32).toInt = 0 := rfl; omega)⟩
                        · refine oq_c ⟨(nlt_of (by have f0 := i_rg a2; have f1 := i_nlt c3; have f2 := (hs150.2.2.2 c53); have f3 := (hs154.2.2.2 c54); have f4 : (0 : Int32).toInt = 0 := rfl; have f5 := i_rg a5; have f6 : (60 : Int32).toInt = 60 := rfl; have f7 := i_rg a4; have f8 := i_nlt c4; have f9 := i_le c5; omega)), (nlt_of (by have f0 := i_rg a4; have f1 := i_nlt c4; have f2 := (hs154.2.2.2 c54); have f3 : (0 : Int32).toInt = 0 := rfl; have f4 := i_rg a5; have f5 : (60 : Int32).toInt = 60 := rfl; have f6 := i_le c5; have f7 := (hs150.2.2.2 c53); have f8 := i_rg a2; have f9 := i_nlt c3; omega)), (nlt_of (by have f0 := i_rg a5; have f1 := i_le c5; have f2 := (hs150.2.2.2 c53); have f3 := (hs154.2.2.2 c54); have f4 : (0 : Int32).toInt = 0 := rfl; have f5 := i_rg a2; have f6 : (60 : Int32).toInt = 60 := rfl; have f7 := i_rg a4; have f8 := i_nlt c3; have f9 := i_nlt c4; omega)), (by have f0 := i_rg a2; have f1 := i_rg a5; have f2 := i_nlt c3; have f3 := i_le c5; have f4 := (hs150.2.2.2 c53); have f5 := (hs154.2.2.2 c54); have f6 : (0 : Int32).toInt = 0 := rfl; have f7 : (60 : Int32).toInt = 60 := rfl; have f8 := i_rg a4; have f9 := i_nlt c4; have f10 := cl_nat (a2); have f11 := cl_nat (a5); omega), (by have f0 := i_rg a4; have f1 := i_rg a5; have f2 := i_nlt c4; have f3 := i_le c5; have f4 := (hs150.2.2.2 c53); have f5 := (hs154.2.2.2 c54); have f6 : (0 : Int32).toInt = 0 := rfl; have f7 := i_rg a2; have f8 : (60 : Int32).toInt = 60 := rfl; have f9 := i_nlt c3; have f10 := cl_nat (a4); have f11 := cl_nat (a5); omega)⟩ ?_
                          refine oq_b (h_X11_granted  (j_cb js154 14 (fun _ => rfl) rfl).1) (fun r157 s158 hs158 => ?_)
                          have js158 : JC 47890485652059026823698344598447161988085597568483328 s s158 := j_call (j_cb js154 14 (fun _ => rfl) rfl) hs158.1 rfl
                          refine oq_c (b01_of (by have f0 := hs158.2.1; have f1 := i_rg r157; omega)) ?_
                          exact ⟨js158, (by have f0 := hs158.2.1; have f1 := i_rg r157; omega), fun c9 => False.elim (by have f0 := hs158.2.1; have f1 := i_rg r157; have f2 := i_eq c9; have f3 : (0 : Int32).toInt = 0 := rfl; omega), fun c9 => ⟨(by have f0 : (0 : Int32).toInt = 0 := rfl; have f1 := i_rg a1; have f2 := (hs2.2.2.2 c1).1; have f3 := (hs2.2.2.2 c1).2; have f4 := ek5; have f5 : (3 : Int32).toInt = 3 := rfl; have f6 : (2 : Int32).toInt = 2 := rfl; omega), (by have f0 := i_rg a1; have f1 : (3 : Int32).toInt = 3 := rfl; have f2 := (hs2.2.2.2 c1).1; have f3 := (hs2.2.2.2 c1).2; have f4 := ek5; have f5 : (0 : Int32).toInt = 0 := rfl; have f6 : (2 : Int32).toInt = 2 := rfl; omega), (by have f0 : (0 : Int32).toInt = 0 := rfl; have f1 := i_rg a2; have f2 := i_nlt c3; have f3 := (hs150.2.2.2 c53); have f4 := (hs154.2.2.2 c54); have f5 := i_rg a5; have f6 : (60 : Int32).toInt = 60 := rfl; have f7 := i_rg a4; have f8 := i_nlt c4; have f9 := i_le c5; omega), (by have f0 : (0 : Int32).toInt = 0 := rfl; have f1 := i_rg a3; have f2 := (hs6.2.2.2 c2).1; have f3 := (hs6.2.2.2 c2).2; have f4 := ek48; have f5 : (3 : Int32).toInt = 3 := rfl; omega), (by have f0 := i_rg a3; have f1 : (3 : Int32).toInt = 3 := rfl; have f2 := (hs6.2.2.2 c2).1; have f3 := (hs6.2.2.2 c2).2; have f4 := ek48; have f5 : (0 : Int32).toInt = 0 := rfl; omega), (by have f0 : (0 : Int32).toInt = 0 := rfl; have f1 := i_rg a4; have f2 := i_nlt c4; have f3 := (hs154.2.2.2 c54); have f4 := i_rg a5; have f5 : (60 : Int32).toInt = 60 := rfl; have f6 := i_le c5; have f7 := (hs150.2.2.2 c53); have f8 := i_rg a2; have f9 := i_nlt c3; omega), (by have f0 : (0 : Int32).toInt = 0 := rfl; have f1 := i_rg a5; have f2 := i_le c5; have f3 := (hs150.2.2.2 c53); have f4 := (hs154.2.2.2 c54); have f5 := i_rg a2; have f6 : (60 : Int32).toInt = 60 := rfl; have f7 := i_rg a4; have f8 := i_nlt c3; have f9 := i_nlt c4; omega)⟩⟩
                    · refine oq_b (h_X11_refused _ js6.1 (by have f0 : (8 : Int32).toInt = 8 := rfl; omega)) (fun r159 s160 hs160 => ?_)
                      have js160 : JC 47890485652059026823698344598447161988085597568483328 s s160 := j_call js6 hs160.1 rfl
                      refine oq_c (b01_of (by have f0 := hs160.2.1; have f1 := i_rg r159; omega)) ?_
                      exact ⟨js160, (by have f0 := hs160.2.1; have f1 := i_rg r159; omega), fun _ => trivial, fun c9 => False.elim (by have f0 := hs160.2.1; have f1 := i_rg r159; have f2 := i_ne c9; have f3 : (0 : Int32).toInt = 0 := rfl; omega)⟩
              · refine oq_if (fun c55 => ?_) (fun c55 => ?_)
                · refine oq_b (h_X11_refused _ js6.1 (by have f0 : (2 : Int32).toInt = 2 := rfl; omega)) (fun r161 s162 hs162 => ?_)
                  have js162 : JC 47890485652059026823698344598447161988085597568483328 s s162 := j_call js6 hs162.1 rfl
                  refine oq_c (b01_of (by have f0 := hs162.2.1; have f1 := i_rg r161; omega)) ?_
                  exact ⟨js162, (by have f0 := hs162.2.1; have f1 := i_rg r161; omega), fun _ => trivial, fun c9 => False.elim (by have f0 := hs162.2.1; have f1 := i_rg r161; have f2 := i_ne c9; have f3 : (0 : Int32).toInt = 0 := rfl; omega)⟩
                · refine oq_if (fun c56 => ?_) (fun c56 => ?_)
                  · refine oq_b (h_X11_refused _ js6.1 (by have f0 : (2 : Int32).toInt = 2 := rfl; omega)) (fun r163 s164 hs164 => ?_)
                    have js164 : JC 47890485652059026823698344598447161988085597568483328 s s164 := j_call js6 hs164.1 rfl
                    refine oq_c (b01_of (by have f0 := hs164.2.1; have f1 := i_rg r163; omega)) ?_
                    exact ⟨js164, (by have f0 := hs164.2.1; have f1 := i_rg r163; omega), fun _ => trivial, fun c9 => False.elim (by have f0 := hs164.2.1; have f1 := i_rg r163; have f2 := i_ne c9; have f3 : (0 : Int32).toInt = 0 := rfl; omega)⟩
                  · refine oq_if (fun c57 => ?_) (fun c57 => ?_)
                    · refine oq_b (h_X8_reachesTo_12 _ _ js6.1 (by have f0 := i_rg a2; have f1 := i_nlt c3; have f2 : (0 : Int32).toInt = 0 := rfl; omega) (by have f0 := i_rg a5; have f1 := i_le c5; have f2 : (0 : Int32).toInt = 0 := rfl; omega)) (fun r165 s166 hs166 => ?_)
                      have js166 : JC 47890485652059026823698344598447161988085597568483328 s s166 := j_call js6 hs166.1 rfl
                      refine oq_if (fun c58 => ?_) (fun c58 => ?_)
                      · refine oq_b (h_X11_refused _ js166.1 (by have f0 : (3 : Int32).toInt = 3 := rfl; omega)) (fun r167 s168 hs168 => ?_)
                        have js168 : JC 47890485652059026823698344598447161988085597568483328 s s168 := j_call js166 hs168.1 rfl
                        refine oq_c (b01_of (by have f0 := hs168.2.1; have f1 := i_rg r167; omega)) ?_
                        exact ⟨js168, (by have f0 := hs168.2.1; have f1 := i_rg r167; omega), fun _ => trivial, fun c9 => False.elim (by have f0 := hs168.2.1; have f1 := i_rg r167; have f2 := i_ne c9; have f3 : (0 : Int32).toInt = 0 := rfl; omega)⟩
                      · refine oq_b (h_X8_reachesTo_11 _ _ js166.1 (by have f0 := i_rg a4; have f1 := i_nlt c4; have f2 : (0 : Int32).toInt = 0 := rfl; omega) (by have f0 := i_rg a5; have f1 := i_le c5; have f2 := (hs166.2.2.2 c58); have f3 : (0 : Int32).toInt = 0 := rfl; have f4 := i_rg a2; have f5 : (60 : Int32).toInt = 60 := rfl; have f6 := i_nlt c3; omega)) (fun r169 s170 hs170 => ?_)
                        have js170 : JC 47890485652059026823698344598447161988085597568483328 s s170 := j_call js166 hs170.1 rfl
                        refine oq_if (fun c59 => ?_) (fun c59 => ?_)
                        · refine oq_b (h_X11_refused _ js170.1 (by have f0 : (3 : Int32).toInt = 3 := rfl; omega)) (fun r171 s172 hs172 => ?_)
                          have js172 : JC 47890485652059026823698344598447161988085597568483328 s s172 := j_call js170 hs172.1 rfl
                          refine oq_c (b01_of (by have f0 := hs172.2.1; have f1 := i_rg r171; omega)) ?_
                          exact ⟨js172, (by have f0 := hs172.2.1; have f1 := i_rg r171; omega), fun _ => trivial, fun c9 => False.elim (by have f0 := hs172.2.1; have f1 := i_rg r171; have f2 := i_ne c9; have f3 : (0 : Int32).toInt = 0 := rfl; omega)⟩
                        · refine oq_c ⟨(nlt_of (by have f0 := i_rg a2; have f1 := i_nlt c3; have f2 := (hs166.2.2.2 c58); have f3 := (hs170.2.2.2 c59); have f4 : (0 : Int32).toInt = 0 := rfl; have f5 := i_rg a5; have f6 : (60 : Int32).toInt = 60 := rfl; have f7 := i_rg a4; have f8 := i_nlt c4; have f9 := i_le c5; omega)), (nlt_of (by have f0 := i_rg a4; have f1 := i_nlt c4; have f2 := (hs170.2.2.2 c59); have f3 : (0 : Int32).toInt = 0 := rfl; have f4 := i_rg a5; have f5 : (60 : Int32).toInt = 60 := rfl; have f6 := i_le c5; have f7 := (hs166.2.2.2 c58); have f8 := i_rg a2; have f9 := i_nlt c3; omega)), (nlt_of (by have f0 := i_rg a5; have f1 := i_le c5; have f2 := (hs166.2.2.2 c58); have f3 := (hs170.2.2.2 c59); have f4 : (0 : Int32).toInt = 0 := rfl; have f5 := i_rg a2; have f6 : (60 : Int32).toInt = 60 := rfl; have f7 := i_rg a4; have f8 := i_nlt c3; have f9 := i_nlt c4; omega)), (by have f0 := i_rg a2; have f1 := i_rg a5; have f2 := i_nlt c3; have f3 := i_le c5; have f4 := (hs166.2.2.2 c58); have f5 := (hs170.2.2.2 c59); have f6 : (0 : Int32).toInt = 0 := rfl; have f7 : (60 : Int32).toInt = 60 := rfl; have f8 := i_rg a4; have f9 := i_nlt c4; have f10 := cl_nat (a2); have f11 := cl_nat (a5); omega), (by have f0 := i_rg a4; have f1 := i_rg a5; have f2 := i_nlt c4; have f3 := i_le c5; have f4 := (hs166.2.2.2 c58); have f5 := (hs170.2.2.2 c59); have f6 : (0 : Int32).toInt = 0 := rfl; have f7 := i_rg a2; have f8 : (60 : Int32).toInt = 60 := rfl; have f9 := i_nlt c3; have f10 := cl_nat (a4); have f11 := cl_nat (a5); omega)⟩ ?_
                          refine oq_b (h_X11_granted  (j_cb js170 15 (fun _ => rfl) rfl).1) (fun r173 s174 hs174 => ?_)
                          have js174 : JC 47890485652059026823698344598447161988085597568483328 s s174 := j_call (j_cb js170 15 (fun _ => rfl) rfl) hs174.1 rfl
                          refine oq_c (b01_of (by have f0 := hs174.2.1; have f1 := i_rg r173; omega)) ?_
                          exact ⟨js174, (by have f0 := hs174.2.1; have f1 := i_rg r173; omega), fun c9 => False.elim (by have f0 := hs174.2.1; have f1 := i_rg r173; have f2 := i_eq c9; have f3 : (0 : Int32).toInt = 0 := rfl; omega), fun c9 => ⟨(by have f0 : (0 : Int32).toInt = 0 := rfl; have f1 := i_rg a1; have f2 := (hs2.2.2.2 c1).1; have f3 := (hs2.2.2.2 c1).2; have f4 := ek5; have f5 : (3 : Int32).toInt = 3 := rfl; have f6 : (2 : Int32).toInt = 2 := rfl; omega), (by have f0 := i_rg a1; have f1 : (3 : Int32).toInt = 3 := rfl; have f2 := (hs2.2.2.2 c1).1; have f3 := (hs2.2.2.2 c1).2; have f4 := ek5; have f5 : (0 : Int32).toInt = 0 := rfl; have f6 : (2 : Int32).toInt = 2 := rfl; omega), (by have f0 : (0 : Int32).toInt = 0 := rfl; have f1 := i_rg a2; have f2 := i_nlt c3; have f3 := (hs166.2.2.2 c58); have f4 := (hs170.2.2.2 c59); have f5 := i_rg a5; have f6 : (60 : Int32).toInt = 60 := rfl; have f7 := i_rg a4; have f8 := i_nlt c4; have f9 := i_le c5; omega), (by have f0 : (0 : Int32).toInt = 0 := rfl; have f1 := i_rg a3; have f2 := (hs6.2.2.2 c2).1; have f3 := (hs6.2.2.2 c2).2; have f4 := ek48; have f5 : (3 : Int32).toInt = 3 := rfl; have f6 : (1 : Int32).toInt = 1 := rfl; omega), (by have f0 := i_rg a3; have f1 : (3 : Int32).toInt = 3 := rfl; have f2 := (hs6.2.2.2 c2).1; have f3 := (hs6.2.2.2 c2).2; have f4 := ek48; have f5 : (0 : Int32).toInt = 0 := rfl; have f6 : (1 : Int32).toInt = 1 := rfl; omega), (by have f0 : (0 : Int32).toInt = 0 := rfl; have f1 := i_rg a4; have f2 := i_nlt c4; have f3 := (hs170.2.2.2 c59); have f4 := i_rg a5; have f5 : (60 : Int32).toInt = 60 := rfl; have f6 := i_le c5; have f7 := (hs166.2.2.2 c58); have f8 := i_rg a2; have f9 := i_nlt c3; omega), (by have f0 : (0 : Int32).toInt = 0 := rfl; have f1 := i_rg a5; have f2 := i_le c5; have f3 := (hs166.2.2.2 c58); have f4 := (hs170.2.2.2 c59); have f5 := i_rg a2; have f6 : (60 : Int32).toInt = 60 := rfl; have f7 := i_rg a4; have f8 := i_nlt c3; have f9 := i_nlt c4; omega)⟩⟩
                    · refine oq_b (h_X11_refused _ js6.1 (by have f0 : (8 : Int32).toInt = 8 := rfl; omega)) (fun r175 s176 hs176 => ?_)
                      have js176 : JC 47890485652059026823698344598447161988085597568483328 s s176 := j_call js6 hs176.1 rfl
                      refine oq_c (b01_of (by have f0 := hs176.2.1; have f1 := i_rg r175; omega)) ?_
                      exact ⟨js176, (by have f0 := hs176.2.1; have f1 := i_rg r175; omega), fun _ => trivial, fun c9 => False.elim (by have f0 := hs176.2.1; have f1 := i_rg r175; have f2 := i_ne c9; have f3 : (0 : Int32).toInt = 0 := rfl; omega)⟩
              · refine oq_if (fun c60 => ?_) (fun c60 => ?_)
                · refine oq_b (h_X11_refused _ js6.1 (by have f0 : (2 : Int32).toInt = 2 := rfl; omega)) (fun r177 s178 hs178 => ?_)
                  have js178 : JC 47890485652059026823698344598447161988085597568483328 s s178 := j_call js6 hs178.1 rfl
                  refine oq_c (b01_of (by have f0 := hs178.2.1; have f1 := i_rg r177; omega)) ?_
                  exact ⟨js178, (by have f0 := hs178.2.1; have f1 := i_rg r177; omega), fun _ => trivial, fun c9 => False.elim (by have f0 := hs178.2.1; have f1 := i_rg r177; have f2 := i_ne c9; have f3 : (0 : Int32).toInt = 0 := rfl; omega)⟩
                · refine oq_if (fun c61 => ?_) (fun c61 => ?_)
                  · exact False.elim (by have f0 := j_rd js6 12 1 rfl; have f1 : (s6.1 12 1).toInt = (s2.1 12 1).toInt := j_fr hs6.1 12 1 12 rfl rfl; have f2 : (0 : Int32).toInt = 0 := rfl; have f3 := j_rd js2 12 1 rfl; have f4 : (s2.1 12 1).toInt = (s.1 12 1).toInt := j_fr hs2.1 12 1 12 rfl rfl; have f5 := j_rd hJ 12 1 rfl; have f6 := i_ne c60; have f7 := i_eq c61; omega)
                  · refine oq_if (fun c62 => ?_) (fun c62 => ?_)
                    · refine oq_b (h_X8_reachesTo_12 _ _ js6.1 (by have f0 := i_rg a2; have f1 := i_nlt c3; have f2 : (0 : Int32).toInt = 0 := rfl; omega) (by have f0 := i_rg a5; have f1 := i_le c5; have f2 : (0 : Int32).toInt = 0 := rfl; omega)) (fun r181 s182 hs182 => ?_)
                      have js182 : JC 47890485652059026823698344598447161988085597568483328 s s182 := j_call js6 hs182.1 rfl
                      refine oq_if (fun c63 => ?_) (fun c63 => ?_)
                      · refine oq_b (h_X11_refused _ js182.1 (by have f0 : (3 : Int32).toInt = 3 := rfl; omega)) (fun r183 s184 hs184 => ?_)
                        have js184 : JC 47890485652059026823698344598447161988085597568483328 s s184 := j_call js182 hs184.1 rfl
                        refine oq_c (b01_of (by have f0 := hs184.2.1; have f1 := i_rg r183; omega)) ?_
                        exact ⟨js184, (by have f0 := hs184.2.1; have f1 := i_rg r183; omega), fun _ => trivial, fun c9 => False.elim (by have f0 := hs184.2.1; have f1 := i_rg r183; have f2 := i_ne c9; have f3 : (0 : Int32).toInt = 0 := rfl; omega)⟩
                      · refine oq_b (h_X8_reachesTo_12 _ _ js182.1 (by have f0 := i_rg a4; have f1 := i_nlt c4; have f2 : (0 : Int32).toInt = 0 := rfl; omega) (by have f0 := i_rg a5; have f1 := i_le c5; have f2 := (hs182.2.2.2 c63); have f3 : (0 : Int32).toInt = 0 := rfl; have f4 := i_rg a2; have f5 : (60 : Int32).toInt = 60 := rfl; have f6 := i_nlt c3; omega)) (fun r185 s186 hs186 => ?_)
                        have js186 : JC 47890485652059026823698344598447161988085597568483328 s s186 := j_call js182 hs186.1 rfl
                        refine oq_if (fun c64 => ?_) (fun c64 => ?_)
                        · refine oq_b (h_X11_refused _ js186.1 (by have f0 : (3 : Int32).toInt = 3 := rfl; omega)) (fun r187 s188 hs188 => ?_)
                          have js188 : JC 47890485652059026823698344598447161988085597568483328 s s188 := j_call js186 hs188.1 rfl
                          refine oq_c (b01_of (by have f0 := hs188.2.1; have f1 := i_rg r187; omega)) ?_
                          exact ⟨js188, (by have f0 := hs188.2.1; have f1 := i_rg r187; omega), fun _ => trivial, fun c9 => False.elim (by have f0 := hs188.2.1; have f1 := i_rg r187; have f2 := i_ne c9; have f3 : (0 : Int32).toInt = 0 := rfl; omega)⟩
                        · refine oq_c ⟨(nlt_of (by have f0 := i_rg a2; have f1 := i_nlt c3; have f2 := (hs182.2.2.2 c63); have f3 := (hs186.2.2.2 c64); have f4 : (0 : Int32).toInt = 0 := rfl; have f5 := i_rg a5; have f6 : (60 : Int32).toInt = 60 := rfl; have f7 := i_rg a4; have f8 := i_nlt c4; have f9 := i_le c5; omega)), (nlt_of (by have f0 := i_rg a4; have f1 := i_nlt c4; have f2 := (hs186.2.2.2 c64); have f3 : (0 : Int32).toInt = 0 := rfl; have f4 := i_rg a5; have f5 : (60 : Int32).toInt = 60 := rfl; have f6 := i_le c5; have f7 := (hs182.2.2.2 c63); have f8 := i_rg a2; have f9 := i_nlt c3; omega)), (nlt_of (by have f0 := i_rg a5; have f1 := i_le c5; have f2 := (hs182.2.2.2 c63); have f3 := (hs186.2.2.2 c64); have f4 : (0 : Int32).toInt = 0 := rfl; have f5 := i_rg a2; have f6 : (60 : Int32).toInt = 60 := rfl; have f7 := i_rg a4; have f8 := i_nlt c3; have f9 := i_nlt c4; omega)), (by have f0 := i_rg a2; have f1 := i_rg a5; have f2 := i_nlt c3; have f3 := i_le c5; have f4 := (hs182.2.2.2 c63); have f5 := (hs186.2.2.2 c64); have f6 : (0 : Int32).toInt = 0 := rfl; have f7 : (60 : Int32).toInt = 60 := rfl; have f8 := i_rg a4; have f9 := i_nlt c4; have f10 := cl_nat (a2); have f11 := cl_nat (a5); omega), (by have f0 := i_rg a4; have f1 := i_rg a5; have f2 := i_nlt c4; have f3 := i_le c5; have f4 := (hs182.2.2.2 c63); have f5 := (hs186.2.2.2 c64); have f6 : (0 : Int32).toInt = 0 := rfl; have f7 := i_rg a2; have f8 : (60 : Int32).toInt = 60 := rfl; have f9 := i_nlt c3; have f10 := cl_nat (a4); have f11 := cl_nat (a5); omega)⟩ ?_
                          refine oq_b (h_X11_granted  (j_cb js186 16 (fun _ => rfl) rfl).1) (fun r189 s190 hs190 => ?_)
                          have js190 : JC 47890485652059026823698344598447161988085597568483328 s s190 := j_call (j_cb js186 16 (fun _ => rfl) rfl) hs190.1 rfl
                          refine oq_c (b01_of (by have f0 := hs190.2.1; have f1 := i_rg r189; omega)) ?_
                          exact ⟨js190, (by have f0 := hs190.2.1; have f1 := i_rg r189; omega), fun c9 => False.elim (by have f0 := hs190.2.1; have f1 := i_rg r189; have f2 := i_eq c9; have f3 : (0 : Int32).toInt = 0 := rfl; omega), fun c9 => ⟨(by have f0 : (0 : Int32).toInt = 0 := rfl; have f1 := i_rg a1; have f2 := (hs2.2.2.2 c1).1; have f3 := (hs2.2.2.2 c1).2; have f4 := ek5; have f5 : (3 : Int32).toInt = 3 := rfl; have f6 : (2 : Int32).toInt = 2 := rfl; omega), (by have f0 := i_rg a1; have f1 : (3 : Int32).toInt = 3 := rfl; have f2 := (hs2.2.2.2 c1).1; have f3 := (hs2.2.2.2 c1).2; have f4 := ek5; have f5 : (0 : Int32).toInt = 0 := rfl; have f6 : (2 : Int32).toInt = 2 := rfl; omega), (by have f0 : (0 : Int32).toInt = 0 := rfl; have f1 := i_rg a2; have f2 := i_nlt c3; have f3 := (hs182.2.2.2 c63); have f4 := (hs186.2.2.2 c64); have f5 := i_rg a5; have f6 : (60 : Int32).toInt = 60 := rfl; have f7 := i_rg a4; have f8 := i_nlt c4; have f9 := i_le c5; omega), (by have f0 : (0 : Int32).toInt = 0 := rfl; have f1 := i_rg a3; have f2 := (hs6.2.2.2 c2).1; have f3 := (hs6.2.2.2 c2).2; have f4 := ek48; have f5 : (3 : Int32).toInt = 3 := rfl; have f6 : (2 : Int32).toInt = 2 := rfl; omega), (by have f0 := i_rg a3; have f1 : (3 : Int32).toInt = 3 := rfl; have f2 := (hs6.2.2.2 c2).1; have f3 := (hs6.2.2.2 c2).2; have f4 := ek48; have f5 : (0 : Int32).toInt = 0 := rfl; have f6 : (2 : Int32).toInt = 2 := rfl; omega), (by have f0 : (0 : Int32).toInt = 0 := rfl; have f1 := i_rg a4; have f2 := i_nlt c4; have f3 := (hs186.2.2.2 c64); have f4 := i_rg a5; have f5 : (60 : Int32).toInt = 60 := rfl; have f6 := i_le c5; have f7 := (hs182.2.2.2 c63); have f8 := i_rg a2; have f9 := i_nlt c3; omega), (by have f0 : (0 : Int32).toInt = 0 := rfl; have f1 := i_rg a5; have f2 := i_le c5; have f3 := (hs182.2.2.2 c63); have f4 := (hs186.2.2.2 c64); have f5 := i_rg a2; have f6 : (60 : Int32).toInt = 60 := rfl; have f7 := i_rg a4; have f8 := i_nlt c3; have f9 := i_nlt c4; omega)⟩⟩
                    · refine oq_b (h_X11_refused _ js6.1 (by have f0 : (8 : Int32).toInt = 8 := rfl; omega)) (fun r191 s192 hs192 => ?_)
                      have js192 : JC 47890485652059026823698344598447161988085597568483328 s s192 := j_call js6 hs192.1 rfl
                      refine oq_c (b01_of (by have f0 := hs192.2.1; have f1 := i_rg r191; omega)) ?_
                      exact ⟨js192, (by have f0 := hs192.2.1; have f1 := i_rg r191; omega), fun _ => trivial, fun c9 => False.elim (by have f0 := hs192.2.1; have f1 := i_rg r191; have f2 := i_ne c9; have f3 : (0 : Int32).toInt = 0 := rfl; omega)⟩
              · refine oq_if (fun c65 => ?_) (fun c65 => ?_)
                · refine oq_b (h_X11_refused _ js6.1 (by have f0 : (2 : Int32).toInt = 2 := rfl; omega)) (fun r193 s194 hs194 => ?_)
                  have js194 : JC 47890485652059026823698344598447161988085597568483328 s s194 := j_call js6 hs194.1 rfl
                  refine oq_c (b01_of (by have f0 := hs194.2.1; have f1 := i_rg r193; omega)) ?_
                  exact ⟨js194, (by have f0 := hs194.2.1; have f1 := i_rg r193; omega), fun _ => trivial, fun c9 => False.elim (by have f0 := hs194.2.1; have f1 := i_rg r193; have f2 := i_ne c9; have f3 : (0 : Int32).toInt = 0 := rfl; omega)⟩
                · refine oq_if (fun c66 => ?_) (fun c66 => ?_)
                  · refine oq_b (h_X11_refused _ js6.1 (by have f0 : (2 : Int32).toInt = 2 := rfl; omega)) (fun r195 s196 hs196 => ?_)
                    have js196 : JC 47890485652059026823698344598447161988085597568483328 s s196 := j_call js6 hs196.1 rfl
                    refine oq_c (b01_of (by have f0 := hs196.2.1; have f1 := i_rg r195; omega)) ?_
                    exact ⟨js196, (by have f0 := hs196.2.1; have f1 := i_rg r195; omega), fun _ => trivial, fun c9 => False.elim (by have f0 := hs196.2.1; have f1 := i_rg r195; have f2 := i_ne c9; have f3 : (0 : Int32).toInt = 0 := rfl; omega)⟩
                  · refine oq_if (fun c67 => ?_) (fun c67 => ?_)
                    · refine oq_b (h_X8_reachesTo_12 _ _ js6.1 (by have f0 := i_rg a2; have f1 := i_nlt c3; have f2 : (0 : Int32).toInt = 0 := rfl; omega) (by have f0 := i_rg a5; have f1 := i_le c5; have f2 : (0 : Int32).toInt = 0 := rfl; omega)) (fun r197 s198 hs198 => ?_)
                      have js198 : JC 47890485652059026823698344598447161988085597568483328 s s198 := j_call js6 hs198.1 rfl
                      refine oq_if (fun c68 => ?_) (fun c68 => ?_)
                      · refine oq_b (h_X11_refused _ js198.1 (by have f0 : (3 : Int32).toInt = 3 := rfl; omega)) (fun r199 s200 hs200 => ?_)
                        have js200 : JC 47890485652059026823698344598447161988085597568483328 s s200 := j_call js198 hs200.1 rfl
                        refine oq_c (b01_of (by have f0 := hs200.2.1; have f1 := i_rg r199; omega)) ?_
                        exact ⟨js200, (by have f0 := hs200.2.1; have f1 := i_rg r199; omega), fun _ => trivial, fun c9 => False.elim (by have f0 := hs200.2.1; have f1 := i_rg r199; have f2 := i_ne c9; have f3 : (0 : Int32).toInt = 0 := rfl; omega)⟩
                      · refine oq_b (h_X8_reachesTo_13 _ _ js198.1 (by have f0 := i_rg a4; have f1 := i_nlt c4; have f2 : (0 : Int32).toInt = 0 := rfl; omega) (by have f0 := i_rg a5; have f1 := i_le c5; have f2 := (hs198.2.2.2 c68); have f3 : (0 : Int32).toInt = 0 := rfl; have f4 := i_rg a2; have f5 : (60 : Int32).toInt = 60 := rfl; have f6 := i_nlt c3; omega)) (fun r201 s202 hs202 => ?_)
                        have js202 : JC 47890485652059026823698344598447161988085597568483328 s s202 := j_call js198 hs202.1 rfl
                        refine oq_if (fun c69 => ?_) (fun c69 => ?_)
                        · refine oq_b (h_X11_refused _ js202.1 (by have f0 : (3 : Int32).toInt = 3 := rfl; omega)) (fun r203 s204 hs204 => ?_)
                          have js204 : JC 47890485652059026823698344598447161988085597568483328 s s204 := j_call js202 hs204.1 rfl
                          refine oq_c (b01_of (by have f0 := hs204.2.1; have f1 := i_rg r203; omega)) ?_
                          exact ⟨js204, (by have f0 := hs204.2.1; have f1 := i_rg r203; omega), fun _ => trivial, fun c9 => False.elim (by have f0 := hs204.2.1; have f1 := i_rg r203; have f2 := i_ne c9; have f3 : (0 : Int32).toInt = 0 := rfl; omega)⟩
                        · refine oq_c ⟨(nlt_of (by have f0 := i_rg a2; have f1 := i_nlt c3; have f2 := (hs198.2.2.2 c68); have f3 := (hs202.2.2.2 c69); have f4 : (0 : Int32).toInt = 0 := rfl; have f5 := i_rg a5; have f6 : (60 : Int32).toInt = 60 := rfl; have f7 := i_rg a4; have f8 := i_nlt c4; have f9 := i_le c5; omega)), (nlt_of (by have f0 := i_rg a4; have f1 := i_nlt c4; have f2 := (hs202.2.2.2 c69); have f3 : (0 : Int32).toInt = 0 := rfl; have f4 := i_rg a5; have f5 : (60 : Int32).toInt = 60 := rfl; have f6 := i_le c5; have f7 := (hs198.2.2.2 c68); have f8 := i_rg a2; have f9 := i_nlt c3; omega)), (nlt_of (by have f0 := i_rg a5; have f1 := i_le c5; have f2 := (hs198.2.2.2 c68); have f3 := (hs202.2.2.2 c69); have f4 : (0 : Int32).toInt = 0 := rfl; have f5 := i_rg a2; have f6 : (60 : Int32).toInt = 60 := rfl; have f7 := i_rg a4; have f8 := i_nlt c3; have f9 := i_nlt c4; omega)), (by have f0 := i_rg a2; have f1 := i_rg a5; have f2 := i_nlt c3; have f3 := i_le c5; have f4 := (hs198.2.2.2 c68); have f5 := (hs202.2.2.2 c69); have f6 : (0 : Int32).toInt = 0 := rfl; have f7 : (60 : Int32).toInt = 60 := rfl; have f8 := i_rg a4; have f9 := i_nlt c4; have f10 := cl_nat (a2); have f11 := cl_nat (a5); omega), (by have f0 := i_rg a4; have f1 := i_rg a5; have f2 := i_nlt c4; have f3 := i_le c5; have f4 := (hs198.2.2.2 c68); have f5 := (hs202.2.2.2 c69); have f6 : (0 : Int32).toInt = 0 := rfl; have f7 := i_rg a2; have f8 : (60 : Int32).toInt = 60 := rfl; have f9 := i_nlt c3; have f10 := cl_nat (a4); have f11 := cl_nat (a5); omega)⟩ ?_
                          refine oq_b (h_X11_granted  (j_cb js202 17 (fun _ => rfl) rfl).1) (fun r205 s206 hs206 => ?_)
                          have js206 : JC 47890485652059026823698344598447161988085597568483328 s s206 := j_call (j_cb js202 17 (fun _ => rfl) rfl) hs206.1 rfl
                          refine oq_c (b01_of (by have f0 := hs206.2.1; have f1 := i_rg r205; omega)) ?_
                          exact ⟨js206, (by have f0 := hs206.2.1; have f1 := i_rg r205; omega), fun c9 => False.elim (by have f0 := hs206.2.1; have f1 := i_rg r205; have f2 := i_eq c9; have f3 : (0 : Int32).toInt = 0 := rfl; omega), fun c9 => ⟨(by have f0 : (0 : Int32).toInt = 0 := rfl; have f1 := i_rg a1; have f2 := (hs2.2.2.2 c1).1; have f3 := (hs2.2.2.2 c1).2; have f4 := ek5; have f5 : (3 : Int32).toInt = 3 := rfl; have f6 : (2 : Int32).toInt = 2 := rfl; omega), (by have f0 := i_rg a1; have f1 : (3 : Int32).toInt = 3 := rfl; have f2 := (hs2.2.2.2 c1).1; have f3 := (hs2.2.2.2 c1).2; have f4 := ek5; have f5 : (0 : Int32).toInt = 0 := rfl; have f6 : (2 : Int32).toInt = 2 := rfl; omega), (by have f0 : (0 : Int32).toInt = 0 := rfl; have f1 := i_rg a2; have f2 := i_nlt c3; have f3 := (hs198.2.2.2 c68); have f4 := (hs202.2.2.2 c69); have f5 := i_rg a5; have f6 : (60 : Int32).toInt = 60 := rfl; have f7 := i_rg a4; have f8 := i_nlt c4; have f9 := i_le c5; omega), (by have f0 : (0 : Int32).toInt = 0 := rfl; have f1 := i_rg a3; have f2 := (hs6.2.2.2 c2).1; have f3 := (hs6.2.2.2 c2).2; have f4 := ek48; have f5 : (3 : Int32).toInt = 3 := rfl; omega), (by have f0 := i_rg a3; have f1 : (3 : Int32).toInt = 3 := rfl; have f2 := (hs6.2.2.2 c2).1; have f3 := (hs6.2.2.2 c2).2; have f4 := ek48; have f5 : (0 : Int32).toInt = 0 := rfl; omega), (by have f0 : (0 : Int32).toInt = 0 := rfl; have f1 := i_rg a4; have f2 := i_nlt c4; have f3 := (hs202.2.2.2 c69); have f4 := i_rg a5; have f5 : (60 : Int32).toInt = 60 := rfl; have f6 := i_le c5; have f7 := (hs198.2.2.2 c68); have f8 := i_rg a2; have f9 := i_nlt c3; omega), (by have f0 : (0 : Int32).toInt = 0 := rfl; have f1 := i_rg a5; have f2 := i_le c5; have f3 := (hs198.2.2.2 c68); have f4 := (hs202.2.2.2 c69); have f5 := i_rg a2; have f6 : (60 : Int32).toInt = 60 := rfl; have f7 := i_rg a4; have f8 := i_nlt c3; have f9 := i_nlt c4; omega)⟩⟩
                    · refine oq_b (h_X11_refused _ js6.1 (by have f0 : (8 : Int32).toInt = 8 := rfl; omega)) (fun r207 s208 hs208 => ?_)
                      have js208 : JC 47890485652059026823698344598447161988085597568483328 s s208 := j_call js6 hs208.1 rfl
                      refine oq_c (b01_of (by have f0 := hs208.2.1; have f1 := i_rg r207; omega)) ?_
                      exact ⟨js208, (by have f0 := hs208.2.1; have f1 := i_rg r207; omega), fun _ => trivial, fun c9 => False.elim (by have f0 := hs208.2.1; have f1 := i_rg r207; have f2 := i_ne c9; have f3 : (0 : Int32).toInt = 0 := rfl; omega)⟩
            · refine oq_c (inr_of (by have f0 := i_rg a3; have f1 := (hs6.2.2.2 c2).1; have f2 := (hs6.2.2.2 c2).2; have f3 : (0 : Int32).toInt = 0 := rfl; have f4 : (3 : Int32).toInt = 3 := rfl; omega)) ?_
              refine oq_s4 (inr_of (by have f0 := i_rg a3; have f1 := (hs6.2.2.2 c2).1; have f2 := (hs6.2.2.2 c2).2; have f3 : (0 : Int32).toInt = 0 := rfl; have f4 : (3 : Int32).toInt = 3 := rfl; omega)) (fun ek69 => ?_) (fun ek69 => ?_) (fun ek69 => ?_) (fun ek69 => ?_)
              · refine oq_if (fun c71 => ?_) (fun c71 => ?_)
                · refine oq_b (h_X11_refused _ js6.1 (by have f0 : (2 : Int32).toInt = 2 := rfl; omega)) (fun r210 s211 hs211 => ?_)
                  have js211 : JC 47890485652059026823698344598447161988085597568483328 s s211 := j_call js6 hs211.1 rfl
                  refine oq_c (b01_of (by have f0 := hs211.2.1; have f1 := i_rg r210; omega)) ?_
                  exact ⟨js211, (by have f0 := hs211.2.1; have f1 := i_rg r210; omega), fun _ => trivial, fun c9 => False.elim (by have f0 := hs211.2.1; have f1 := i_rg r210; have f2 := i_ne c9; have f3 : (0 : Int32).toInt = 0 := rfl; omega)⟩
                · refine oq_if (fun c72 => ?_) (fun c72 => ?_)
                  · refine oq_b (h_X11_refused _ js6.1 (by have f0 : (2 : Int32).toInt = 2 := rfl; omega)) (fun r212 s213 hs213 => ?_)
                    have js213 : JC 47890485652059026823698344598447161988085597568483328 s s213 := j_call js6 hs213.1 rfl
                    refine oq_c (b01_of (by have f0 := hs213.2.1; have f1 := i_rg r212; omega)) ?_
                    exact ⟨js213, (by have f0 := hs213.2.1; have f1 := i_rg r212; omega), fun _ => trivial, fun c9 => False.elim (by have f0 := hs213.2.1; have f1 := i_rg r212; have f2 := i_ne c9; have f3 : (0 : Int32).toInt = 0 := rfl; omega)⟩
                  · refine oq_if (fun c73 => ?_) (fun c73 => ?_)
                    · refine oq_b (h_X8_reachesTo_13 _ _ js6.1 (by have f0 := i_rg a2; have f1 := i_nlt c3; have f2 : (0 : Int32).toInt = 0 := rfl; omega) (by have f0 := i_rg a5; have f1 := i_le c5; have f2 : (0 : Int32).toInt = 0 := rfl; omega)) (fun r214 s215 hs215 => ?_)
                      have js215 : JC 47890485652059026823698344598447161988085597568483328 s s215 := j_call js6 hs215.1 rfl
                      refine oq_if (fun c74 => ?_) (fun c74 => ?_)
                      · refine oq_b (h_X11_refused _ js215.1 (by have f0 : (3 : Int32).toInt = 3 := rfl; omega)) (fun r216 s217 hs217 => ?_)
                        have js217 : JC 47890485652059026823698344598447161988085597568483328 s s217 := j_call js215 hs217.1 rfl
                        refine oq_c (b01_of (by have f0 := hs217.2.1; have f1 := i_rg r216; omega)) ?_
                        exact ⟨js217, (by have f0 := hs217.2.1; have f1 := i_rg r216; omega), fun _ => trivial, fun c9 => False.elim (by have f0 := hs217.2.1; have f1 := i_rg r216; have f2 := i_ne c9; have f3 : (0 : Int32).toInt = 0 := rfl; omega)⟩
                      · refine oq_b (h_X8_reachesTo_10 _ _ js215.1 (by have f0 := i_rg a4; have f1 := i_nlt c4; have f2 : (0 : Int32).toInt = 0 := rfl; omega) (by have f0 := i_rg a5; have f1 := i_le c5; have f2 := (hs215.2.2.2 c74); have f3 : (0 : Int32).toInt = 0 := rfl; have f4 := i_rg a2; have f5 : (60 : Int32).toInt = 60 := rfl; have f6 := i_nlt c3; omega)) (fun r218 s219 hs219 => ?_)
                        have js219 : JC 47890485652059026823698344598447161988085597568483328 s s219 := j_call js215 hs219.1 rfl
                        refine oq_if (fun c75 => ?_) (fun c75 => ?_)
                        · refine oq_b (h_X11_refused _ js219.1 (by have f0 : (3 : Int32).toInt = 3 := rfl; omega)) (fun r220 s221 hs221 => ?_)
                          have js221 : JC 47890485652059026823698344598447161988085597568483328 s s221 := j_call js219 hs221.1 rfl
                          refine oq_c (b01_of (by have f0 := hs221.2.1; have f1 := i_rg r220; omega)) ?_
                          exact ⟨js221, (by have f0 := hs221.2.1; have f1 := i_rg r220; omega), fun _ => trivial, fun c9 => False.elim (by have f0 := hs221.2.1; have f1 := i_rg r220; have f2 := i_ne c9; have f3 : (0 : Int32).toInt = 0 := rfl; omega)⟩
                        · refine oq_c ⟨(nlt_of (by have f0 := i_rg a2; have f1 := i_nlt c3; have f2 := (hs215.2.2.2 c74); have f3 := (hs219.2.2.2 c75); have f4 : (0 : Int32).toInt = 0 := rfl; have f5 := i_rg a5; have f6 : (60 : Int32).toInt = 60 := rfl; have f7 := i_rg a4; have f8 := i_nlt c4; have f9 := i_le c5; omega)), (nlt_of (by have f0 := i_rg a4; have f1 := i_nlt c4; have f2 := (hs219.2.2.2 c75); have f3 : (0 : Int32).toInt = 0 := rfl; have f4 := i_rg a5; have f5 : (60 : Int32).toInt = 60 := rfl; have f6 := i_le c5; have f7 := (hs215.2.2.2 c74); have f8 := i_rg a2; have f9 := i_nlt c3; omega)), (nlt_of (by have f0 := i_rg a5; have f1 := i_le c5; have f2 := (hs215.2.2.2 c74); have f3 := (hs219.2.2.2 c75); have f4 : (0 : Int32).toInt = 0 := rfl; have f5 := i_rg a2; have f6 : (60 : Int32).toInt = 60 := rfl; have f7 := i_rg a4; have f8 := i_nlt c3; have f9 := i_nlt c4; omega)), (by have f0 := i_rg a2; have f1 := i_rg a5; have f2 := i_nlt c3; have f3 := i_le c5; have f4 := (hs215.2.2.2 c74); have f5 := (hs219.2.2.2 c75); have f6 : (0 : Int32).toInt = 0 := rfl; have f7 : (60 : Int32).toInt = 60 := rfl; have f8 := i_rg a4; have f9 := i_nlt c4; have f10 := cl_nat (a2); have f11 := cl_nat (a5); omega), (by have f0 := i_rg a4; have f1 := i_rg a5; have f2 := i_nlt c4; have f3 := i_le c5; have f4 := (hs215.2.2.2 c74); have f5 := (hs219.2.2.2 c75); have f6 : (0 : Int32).toInt = 0 := rfl; have f7 := i_rg a2; have f8 : (60 : Int32).toInt = 60 := rfl; have f9 := i_nlt c3; have f10 := cl_nat (a4); have f11 := cl_nat (a5); omega)⟩ ?_
                          refine oq_b (h_X11_granted  (j_cb js219 14 (fun _ => rfl) rfl).1) (fun r222 s223 hs223 => ?_)
                          have js223 : JC 47890485652059026823698344598447161988085597568483328 s s223 := j_call (j_cb js219 14 (fun _ => rfl) rfl) hs223.1 rfl
                          refine oq_c (b01_of (by have f0 := hs223.2.1; have f1 := i_rg r222; omega)) ?_
                          exact ⟨js223, (by have f0 := hs223.2.1; have f1 := i_rg r222; omega), fun c9 => False.elim (by have f0 := hs223.2.1; have f1 := i_rg r222; have f2 := i_eq c9; have f3 : (0 : Int32).toInt = 0 := rfl; omega), fun c9 => ⟨(by have f0 : (0 : Int32).toInt = 0 := rfl; have f1 := i_rg a1; have f2 := (hs2.2.2.2 c1).1; have f3 := (hs2.2.2.2 c1).2; have f4 := ek5; have f5 : (3 : Int32).toInt = 3 := rfl; omega), (by have f0 := i_rg a1; have f1 : (3 : Int32).toInt = 3 := rfl; have f2 := (hs2.2.2.2 c1).1; have f3 := (hs2.2.2.2 c1).2; have f4 := ek5; have f5 : (0 : Int32).toInt = 0 := rfl; omega), (by have f0 : (0 : Int32).toInt = 0 := rfl; have f1 := i_rg a2; have f2 := i_nlt c3; have f3 := (hs215.2.2.2 c74); have f4 := (hs219.2.2.2 c75); have f5 := i_rg a5; have f6 : (60 : Int32).toInt = 60 := rfl; have f7 := i_rg a4; have f8 := i_nlt c4; have f9 := i_le c5; omega), (by have f0 : (0 : Int32).toInt = 0 := rfl; have f1 := i_rg a3; have f2 := (hs6.2.2.2 c2).1; have f3 := (hs6.2.2.2 c2).2; have f4 := ek69; have f5 : (3 : Int32).toInt = 3 := rfl; omega), (by have f0 := i_rg a3; have f1 : (3 : Int32).toInt = 3 := rfl; have f2 := (hs6.2.2.2 c2).1; have f3 := (hs6.2.2.2 c2).2; have f4 := ek69; have f5 : (0 : Int32).toInt = 0 := rfl; omega), (by have f0 : (0 : Int32).toInt = 0 := rfl; have f1 := i_rg a4; have f2 := i_nlt c4; have f3 := (hs219.2.2.2 c75); have f4 := i_rg a5; have f5 : (60 : Int32).toInt = 60 := rfl; have f6 := i_le c5; have f7 := (hs215.2.2.2 c74); have f8 := i_rg a2; have f9 := i_nlt c3; omega), (by have f0 : (0 : Int32).toInt = 0 := rfl; have f1 := i_rg a5; have f2 := i_le c5; have f3 := (hs215.2.2.2 c74); have f4 := (hs219.2.2.2 c75); have f5 := i_rg a2; have f6 : (60 : Int32).toInt = 60 := rfl; have f7 := i_rg a4; have f8 := i_nlt c3; have f9 := i_nlt c4; omega)⟩⟩
                    · refine oq_b (h_X11_refused _ js6.1 (by have f0 : (8 : Int32).toInt = 8 := rfl; omega)) (fun r224 s225 hs225 => ?_)
                      have js225 : JC 47890485652059026823698344598447161988085597568483328 s s225 := j_call js6 hs225.1 rfl
                      refine oq_c (b01_of (by have f0 := hs225.2.1; have f1 := i_rg r224; omega)) ?_
                      exact ⟨js225, (by have f0 := hs225.2.1; have f1 := i_rg r224; omega), fun _ => trivial, fun c9 => False.elim (by have f0 := hs225.2.1; have f1 := i_rg r224; have f2 := i_ne c9; have f3 : (0 : Int32).toInt = 0 := rfl; omega)⟩
              · refine oq_if (fun c76 => ?_) (fun c76 => ?_)
                · refine oq_b (h_X11_refused _ js6.1 (by have f0 : (2 : Int32).toInt = 2 := rfl; omega)) (fun r226 s227 hs227 => ?_)
                  have js227 : JC 47890485652059026823698344598447161988085597568483328 s s227 := j_call js6 hs227.1 rfl
                  refine oq_c (b01_of (by have f0 := hs227.2.1; have f1 := i_rg r226; omega)) ?_
                  exact ⟨js227, (by have f0 := hs227.2.1; have f1 := i_rg r226; omega), fun _ => trivial, fun c9 => False.elim (by have f0 := hs227.2.1; have f1 := i_rg r226; have f2 := i_ne c9; have f3 : (0 : Int32).toInt = 0 := rfl; omega)⟩
                · refine oq_if (fun c77 => ?_) (fun c77 => ?_)
                  · refine oq_b (h_X11_refused _ js6.1 (by have f0 : (2 : Int32).toInt = 2 := rfl; omega)) (fun r228 s229 hs229 => ?_)
                    have js229 : JC 47890485652059026823698344598447161988085597568483328 s s229 := j_call js6 hs229.1 rfl
                    refine oq_c (b01_of (by have f0 := hs229.2.1; have f1 := i_rg r228; omega)) ?_
                    exact ⟨js229, (by have f0 := hs229.2.1; have f1 := i_rg r228; omega), fun _ => trivial, fun c9 => False.elim (by have f0 := hs229.2.1; have f1 := i_rg r228; have f2 := i_ne c9; have f3 : (0 : Int32).toInt = 0 := rfl; omega)⟩
                  · refine oq_if (fun c78 => ?_) (fun c78 => ?_)
                    · refine oq_b (h_X8_reachesTo_13 _ _ js6.1 (by have f0 := i_rg a2; have f1 := i_nlt c3; have f2 : (0 : Int32).toInt = 0 := rfl; omega) (by have f0 := i_rg a5; have f1 := i_le c5; have f2 : (0 : Int32).toInt = 0 := rfl; omega)) (fun r230 s231 hs231 => ?_)
                      have js231 : JC 47890485652059026823698344598447161988085597568483328 s s231 := j_call js6 hs231.1 rfl
                      refine oq_if (fun c79 => ?_) (fun c79 => ?_)
                      · refine oq_b (h_X11_refused _ js231.1 (by have f0 : (3 : Int32).toInt = 3 := rfl; omega)) (fun r232 s233 hs233 => ?_)
                        have js233 : JC 47890485652059026823698344598447161988085597568483328 s s233 := j_call js231 hs233.1 rfl
                        refine oq_c (b01_of (by have f0 := hs233.2.1; have f1 := i_rg r232; omega)) ?_
                        exact ⟨js233, (by have f0 := hs233.2.1; have f1 := i_rg r232; omega), fun _ => trivial, fun c9 => False.elim (by have f0 := hs233.2.1; have f1 := i_rg r232; have f2 := i_ne c9; have f3 : (0 : Int32).toInt = 0 := rfl; omega)⟩
                      · refine oq_b (h_X8_reachesTo_11 _ _ js231.1 (by have f0 := i_rg a4; have f1 := i_nlt c4; have f2 : (0 : Int32).toInt = 0 := rfl; omega) (by have f0 := i_rg a5; have f1 := i_le c5; have f2 := (hs231.2.2.2 c79); have f3 : (0 : Int32).toInt = 0 := rfl; have f4 := i_rg a2; have f5 : (60 : Int32).toInt = 60 := rfl; have f6 := i_nlt c3; omega)) (fun r234 s235 hs235 => ?_)
                        have js235 : JC 47890485652059026823698344598447161988085597568483328 s s235 := j_call js231 hs235.1 rfl
                        refine oq_if (fun c80 => ?_) (fun c80 => ?_)
                        · refine oq_b (h_X11_refused _ js235.1 (by have f0 : (3 : Int32).toInt = 3 := rfl; omega)) (fun r236 s237 hs237 => ?_)
                          have js237 : JC 47890485652059026823698344598447161988085597568483328 s s237 := j_call js235 hs237.1 rfl
                          refine oq_c (b01_of (by have f0 := hs237.2.1; have f1 := i_rg r236; omega)) ?_
                          exact ⟨js237, (by have f0 := hs237.2.1; have f1 := i_rg r236; omega), fun _ => trivial, fun c9 => False.elim (by have f0 := hs237.2.1; have f1 := i_rg r236; have f2 := i_ne c9; have f3 : (0 : Int32).toInt = 0 := rfl; omega)⟩
                        · refine oq_c ⟨(nlt_of (by have f0 := i_rg a2; have f1 := i_nlt c3; have f2 := (hs231.2.2.2 c79); have f3 := (hs235.2.2.2 c80); have f4 : (0 : Int32).toInt = 0 := rfl; have f5 := i_rg a5; have f6 : (60 : Int32).toInt = 60 := rfl; have f7 := i_rg a4; have f8 := i_nlt c4; have f9 := i_le c5; omega)), (nlt_of (by have f0 := i_rg a4; have f1 := i_nlt c4; have f2 := (hs235.2.2.2 c80); have f3 : (0 : Int32).toInt = 0 := rfl; have f4 := i_rg a5; have f5 : (60 : Int32).toInt = 60 := rfl; have f6 := i_le c5; have f7 := (hs231.2.2.2 c79); have f8 := i_rg a2; have f9 := i_nlt c3; omega)), (nlt_of (by have f0 := i_rg a5; have f1 := i_le c5; have f2 := (hs231.2.2.2 c79); have f3 := (hs235.2.2.2 c80); have f4 : (0 : Int32).toInt = 0 := rfl; have f5 := i_rg a2; have f6 : (60 : Int32).toInt = 60 := rfl; have f7 := i_rg a4; have f8 := i_nlt c3; have f9 := i_nlt c4; omega)), (by have f0 := i_rg a2; have f1 := i_rg a5; have f2 := i_nlt c3; have f3 := i_le c5; have f4 := (hs231.2.2.2 c79); have f5 := (hs235.2.2.2 c80); have f6 : (0 : Int32).toInt = 0 := rfl; have f7 : (60 : Int32).toInt = 60 := rfl; have f8 := i_rg a4; have f9 := i_nlt c4; have f10 := cl_nat (a2); have f11 := cl_nat (a5); omega), (by have f0 := i_rg a4; have f1 := i_rg a5; have f2 := i_nlt c4; have f3 := i_le c5; have f4 := (hs231.2.2.2 c79); have f5 := (hs235.2.2.2 c80); have f6 : (0 : Int32).toInt = 0 := rfl; have f7 := i_rg a2; have f8 : (60 : Int32).toInt = 60 := rfl; have f9 := i_nlt c3; have f10 := cl_nat (a4); have f11 := cl_nat (a5); omega)⟩ ?_
                          refine oq_b (h_X11_granted  (j_cb js235 15 (fun _ => rfl) rfl).1) (fun r238 s239 hs239 => ?_)
                          have js239 : JC 47890485652059026823698344598447161988085597568483328 s s239 := j_call (j_cb js235 15 (fun _ => rfl) rfl) hs239.1 rfl
                          refine oq_c (b01_of (by have f0 := hs239.2.1; have f1 := i_rg r238; omega)) ?_
                          exact ⟨js239, (by have f0 := hs239.2.1; have f1 := i_rg r238; omega), fun c9 => False.elim (by have f0 := hs239.2.1; have f1 := i_rg r238; have f2 := i_eq c9; have f3 : (0 : Int32).toInt = 0 := rfl; omega), fun c9 => ⟨(by have f0 : (0 : Int32).toInt = 0 := rfl; have f1 := i_rg a1; have f2 := (hs2.2.2.2 c1).1; have f3 := (hs2.2.2.2 c1).2; have f4 := ek5; have f5 : (3 : Int32).toInt = 3 := rfl; omega), (by have f0 := i_rg a1; have f1 : (3 : Int32).toInt = 3 := rfl; have f2 := (hs2.2.2.2 c1).1; have f3 := (hs2.2.2.2 c1).2; have f4 := ek5; have f5 : (0 : Int32).toInt = 0 := rfl; omega), (by have f0 : (0 : Int32).toInt = 0 := rfl; have f1 := i_rg a2; have f2 := i_nlt c3; have f3 := (hs231.2.2.2 c79); have f4 := (hs235.2.2.2 c80); have f5 := i_rg a5; have f6 : (60 : Int32).toInt = 60 := rfl; have f7 := i_rg a4; have f8 := i_nlt c4; have f9 := i_le c5; omega), (by have f0 : (0 : Int32).toInt = 0 := rfl; have f1 := i_rg a3; have f2 := (hs6.2.2.2 c2).1; have f3 := (hs6.2.2.2 c2).2; have f4 := ek69; have f5 : (3 : Int32).toInt = 3 := rfl; have f6 : (1 : Int32).toInt = 1 := rfl; omega), (by have f0 := i_rg a3; have f1 : (3 : Int32).toInt = 3 := rfl; have f2 := (hs6.2.2.2 c2).1; have f3 := (hs6.2.2.2 c2).2; have f4 := ek69; have f5 : (0 : Int32).toInt = 0 := rfl; have f6 : (1 : Int32).toInt = 1 := rfl; omega), (by have f0 : (0 : Int32).toInt = 0 := rfl; have f1 := i_rg a4; have f2 := i_nlt c4; have f3 := (hs235.2.2.2 c80); have f4 := i_rg a5; have f5 : (60 : Int32).toInt = 60 := rfl; have f6 := i_le c5; have f7 := (hs231.2.2.2 c79); have f8 := i_rg a2; have f9 := i_nlt c3; omega), (by have f0 : (0 : Int32).toInt = 0 := rfl; have f1 := i_rg a5; have f2 := i_le c5; have f3 := (hs231.2.2.2 c79); have f4 := (hs235.2.2.2 c80); have f5 := i_rg a2; have f6 : (60 : Int32).toInt = 60 := rfl; have f7 := i_rg a4; have f8 := i_nlt c3; have f9 := i_nlt c4; omega)⟩⟩
                    · refine oq_b (h_X11_refused _ js6.1 (by have f0 : (8 : Int32).toInt = 8 := rfl; omega)) (fun r240 s241 hs241 => ?_)
                      have js241 : JC 47890485652059026823698344598447161988085597568483328 s s241 := j_call js6 hs241.1 rfl
                      refine oq_c (b01_of (by have f0 := hs241.2.1; have f1 := i_rg r240; omega)) ?_
                      exact ⟨js241, (by have f0 := hs241.2.1; have f1 := i_rg r240; omega), fun _ => trivial, fun c9 => False.elim (by have f0 := hs241.2.1; have f1 := i_rg r240; have f2 := i_ne c9; have f3 : (0 : Int32).toInt = 0 := rfl; omega)⟩
              · refine oq_if (fun c81 => ?_) (fun c81 => ?_)
                · refine oq_b (h_X11_refused _ js6.1 (by have f0 : (2 : Int32).toInt = 2 := rfl; omega)) (fun r242 s243 hs243 => ?_)
                  have js243 : JC 47890485652059026823698344598447161988085597568483328 s s243 := j_call js6 hs243.1 rfl
                  refine oq_c (b01_of (by have f0 := hs243.2.1; have f1 := i_rg r242; omega)) ?_
                  exact ⟨js243, (by have f0 := hs243.2.1; have f1 := i_rg r242; omega), fun _ => trivial, fun c9 => False.elim (by have f0 := hs243.2.1; have f1 := i_rg r242; have f2 := i_ne c9; have f3 : (0 : Int32).toInt = 0 := rfl; omega)⟩
                · refine oq_if (fun c82 => ?_) (fun c82 => ?_)
                  · refine oq_b (h_X11_refused _ js6.1 (by have f0 : (2 : Int32).toInt = 2 := rfl; omega)) (fun r244 s245 hs245 => ?_)
                    have js245 : JC 47890485652059026823698344598447161988085597568483328 s s245 := j_call js6 hs245.1 rfl
                    refine oq_c (b01_of (by have f0 := hs245.2.1; have f1 := i_rg r244; omega)) ?_
                    exact ⟨js245, (by have f0 := hs245.2.1; have f1 := i_rg r244; omega), fun _ => trivial, fun c9 => False.elim (by have f0 := hs245.2.1; have f1 := i_rg r244; have f2 := i_ne c9; have f3 : (0 : Int32).toInt = 0 := rfl; omega)⟩
                  · refine oq_if (fun c83 => ?_) (fun c83 => ?_)
                    · refine oq_b (h_X8_reachesTo_13 _ _ js6.1 (by have f0 := i_rg a2; have f1 := i_nlt c3; have f2 : (0 : Int32).toInt = 0 := rfl; omega) (by have f0 := i_rg a5; have f1 := i_le c5; have f2 : (0 : Int32).toInt = 0 := rfl; omega)) (fun r246 s247 hs247 => ?_)
                      have js247 : JC 47890485652059026823698344598447161988085597568483328 s s247 := j_call js6 hs247.1 rfl
                      refine oq_if (fun c84 => ?_) (fun c84 => ?_)
                      · refine oq_b (h_X11_refused _ js247.1 (by have f0 : (3 : Int32).toInt = 3 := rfl; omega)) (fun r248 s249 hs249 => ?_)
                        have js249 : JC 47890485652059026823698344598447161988085597568483328 s s249 := j_call js247 hs249.1 rfl
                        refine oq_c (b01_of (by have f0 := hs249.2.1; have f1 := i_rg r248; omega)) ?_
                        exact ⟨js249, (by have f0 := hs249.2.1; have f1 := i_rg r248; omega), fun _ => trivial, fun c9 => False.elim (by have f0 := hs249.2.1; have f1 := i_rg r248; have f2 := i_ne c9; have f3 : (0 : Int32).toInt = 0 := rfl; omega)⟩
                      · refine oq_b (h_X8_reachesTo_12 _ _ js247.1 (by have f0 := i_rg a4; have f1 := i_nlt c4; have f2 : (0 : Int32).toInt = 0 := rfl; omega) (by have f0 := i_rg a5; have f1 := i_le c5; have f2 := (hs247.2.2.2 c84); have f3 : (0 : Int32).toInt = 0 := rfl; have f4 := i_rg a2; have f5 : (60 : Int32).toInt = 60 := rfl; have f6 := i_nlt c3; omega)) (fun r250 s251 hs251 => ?_)
                        have js251 : JC 47890485652059026823698344598447161988085597568483328 s s251 := j_call js247 hs251.1 rfl
                        refine oq_if (fun c85 => ?_) (fun c85 => ?_)
                        · refine oq_b (h_X11_refused _ js251.1 (by have f0 : (3 : Int32).toInt = 3 := rfl; omega)) (fun r252 s253 hs253 => ?_)
                          have js253 : JC 47890485652059026823698344598447161988085597568483328 s s253 := j_call js251 hs253.1 rfl
                          refine oq_c (b01_of (by have f0 := hs253.2.1; have f1 := i_rg r252; omega)) ?_
                          exact ⟨js253, (by have f0 := hs253.2.1; have f1 := i_rg r252; omega), fun _ => trivial, fun c9 => False.elim (by have f0 := hs253.2.1; have f1 := i_rg r252; have f2 := i_ne c9; have f3 : (0 : Int32).toInt = 0 := rfl; omega)⟩
                        · refine oq_c ⟨(nlt_of (by have f0 := i_rg a2; have f1 := i_nlt c3; have f2 := (hs247.2.2.2 c84); have f3 := (hs251.2.2.2 c85); have f4 : (0 : Int32).toInt = 0 := rfl; have f5 := i_rg a5; have f6 : (60 : Int32).toInt = 60 := rfl; have f7 := i_rg a4; have f8 := i_nlt c4; have f9 := i_le c5; omega)), (nlt_of (by have f0 := i_rg a4; have f1 := i_nlt c4; have f2 := (hs251.2.2.2 c85); have f3 : (0 : Int32).toInt = 0 := rfl; have f4 := i_rg a5; have f5 : (60 : Int32).toInt = 60 := rfl; have f6 := i_le c5; have f7 := (hs247.2.2.2 c84); have f8 := i_rg a2; have f9 := i_nlt c3; omega)), (nlt_of (by have f0 := i_rg a5; have f1 := i_le c5; have f2 := (hs247.2.2.2 c84); have f3 := (hs251.2.2.2 c85); have f4 : (0 : Int32).toInt = 0 := rfl; have f5 := i_rg a2; have f6 : (60 : Int32).toInt = 60 := rfl; have f7 := i_rg a4; have f8 := i_nlt c3; have f9 := i_nlt c4; omega)), (by have f0 := i_rg a2; have f1 := i_rg a5; have f2 := i_nlt c3; have f3 := i_le c5; have f4 := (hs247.2.2.2 c84); have f5 := (hs251.2.2.2 c85); have f6 : (0 : Int32).toInt = 0 := rfl; have f7 : (60 : Int32).toInt = 60 := rfl; have f8 := i_rg a4; have f9 := i_nlt c4; have f10 := cl_nat (a2); have f11 := cl_nat (a5); omega), (by have f0 := i_rg a4; have f1 := i_rg a5; have f2 := i_nlt c4; have f3 := i_le c5; have f4 := (hs247.2.2.2 c84); have f5 := (hs251.2.2.2 c85); have f6 : (0 : Int32).toInt = 0 := rfl; have f7 := i_rg a2; have f8 : (60 : Int32).toInt = 60 := rfl; have f9 := i_nlt c3; have f10 := cl_nat (a4); have f11 := cl_nat (a5); omega)⟩ ?_
                          refine oq_b (h_X11_granted  (j_cb js251 16 (fun _ => rfl) rfl).1) (fun r254 s255 hs255 => ?_)
                          have js255 : JC 47890485652059026823698344598447161988085597568483328 s s255 := j_call (j_cb js251 16 (fun _ => rfl) rfl) hs255.1 rfl
                          refine oq_c (b01_of (by have f0 := hs255.2.1; have f1 := i_rg r254; omega)) ?_
                          exact ⟨js255, (by have f0 := hs255.2.1; have f1 := i_rg r254; omega), fun c9 => False.elim (by have f0 := hs255.2.1; have f1 := i_rg r254; have f2 := i_eq c9; have f3 : (0 : Int32).toInt = 0 := rfl; omega), fun c9 => ⟨(by have f0 : (0 : Int32).toInt = 0 := rfl; have f1 := i_rg a1; have f2 := (hs2.2.2.2 c1).1; have f3 := (hs2.2.2.2 c1).2; have f4 := ek5; have f5 : (3 : Int32).toInt = 3 := rfl; omega), (by have f0 := i_rg a1; have f1 : (3 : Int32).toInt = 3 := rfl; have f2 := (hs2.2.2.2 c1).1; have f3 := (hs2.2.2.2 c1).2; have f4 := ek5; have f5 : (0 : Int32).toInt = 0 := rfl; omega), (by have f0 : (0 : Int32).toInt = 0 := rfl; have f1 := i_rg a2; have f2 := i_nlt c3; have f3 := (hs247.2.2.2 c84); have f4 := (hs251.2.2.2 c85); have f5 := i_rg a5; have f6 : (60 : Int32).toInt = 60 := rfl; have f7 := i_rg a4; have f8 := i_nlt c4; have f9 := i_le c5; omega), (by have f0 : (0 : Int32).toInt = 0 := rfl; have f1 := i_rg a3; have f2 := (hs6.2.2.2 c2).1; have f3 := (hs6.2.2.2 c2).2; have f4 := ek69; have f5 : (3 : Int32).toInt = 3 := rfl; have f6 : (2 : Int32).toInt = 2 := rfl; omega), (by have f0 := i_rg a3; have f1 : (3 : Int32).toInt = 3 := rfl; have f2 := (hs6.2.2.2 c2).1; have f3 := (hs6.2.2.2 c2).2; have f4 := ek69; have f5 : (0 : Int32).toInt = 0 := rfl; have f6 : (2 : Int32).toInt = 2 := rfl; omega), (by have f0 : (0 : Int32).toInt = 0 := rfl; have f1 := i_rg a4; have f2 := i_nlt c4; have f3 := (hs251.2.2.2 c85); have f4 := i_rg a5; have f5 : (60 : Int32).toInt = 60 := rfl; have f6 := i_le c5; have f7 := (hs247.2.2.2 c84); have f8 := i_rg a2; have f9 := i_nlt c3; omega), (by have f0 : (0 : Int32).toInt = 0 := rfl; have f1 := i_rg a5; have f2 := i_le c5; have f3 := (hs247.2.2.2 c84); have f4 := (hs251.2.2.2 c85); have f5 := i_rg a2; have f6 : (60 : Int32).toInt = 60 := rfl; have f7 := i_rg a4; have f8 := i_nlt c3; have f9 := i_nlt c4; omega)⟩⟩
                    · refine oq_b (h_X11_refused _ js6.1 (by have f0 : (8 : Int32).toInt = 8 := rfl; omega)) (fun r256 s257 hs257 => ?_)
                      have js257 : JC 47890485652059026823698344598447161988085597568483328 s s257 := j_call js6 hs257.1 rfl
                      refine oq_c (b01_of (by have f0 := hs257.2.1; have f1 := i_rg r256; omega)) ?_
                      exact ⟨js257, (by have f0 := hs257.2.1; have f1 := i_rg r256; omega), fun _ => trivial, fun c9 => False.elim (by have f0 := hs257.2.1; have f1 := i_rg r256; have f2 := i_ne c9; have f3 : (0 : Int32).toInt = 0 := rfl; omega)⟩
              · refine oq_if (fun c86 => ?_) (fun c86 => ?_)
                · refine oq_b (h_X11_refused _ js6.1 (by have f0 : (2 : Int32).toInt = 2 := rfl; omega)) (fun r258 s259 hs259 => ?_)
                  have js259 : JC 47890485652059026823698344598447161988085597568483328 s s259 := j_call js6 hs259.1 rfl
                  refine oq_c (b01_of (by have f0 := hs259.2.1; have f1 := i_rg r258; omega)) ?_
                  exact ⟨js259, (by have f0 := hs259.2.1; have f1 := i_rg r258; omega), fun _ => trivial, fun c9 => False.elim (by have f0 := hs259.2.1; have f1 := i_rg r258; have f2 := i_ne c9; have f3 : (0 : Int32).toInt = 0 := rfl; omega)⟩
                · refine oq_if (fun c87 => ?_) (fun c87 => ?_)
                  · exact False.elim (by have f0 := j_rd js6 13 1 rfl; have f1 : (s6.1 13 1).toInt = (s2.1 13 1).toInt := j_fr hs6.1 13 1 13 rfl rfl; have f2 : (0 : Int32).toInt = 0 := rfl; have f3 := j_rd js2 13 1 rfl; have f4 : (s2.1 13 1).toInt = (s.1 13 1).toInt := j_fr hs2.1 13 1 13 rfl rfl; have f5 := j_rd hJ 13 1 rfl; have f6 := i_ne c86; have f7 := i_eq c87; omega)
                  · refine oq_if (fun c88 => ?_) (fun c88 => ?_)
                    · refine oq_b (h_X8_reachesTo_13 _ _ js6.1 (by have f0 := i_rg a2; have f1 := i_nlt c3; have f2 : (0 : Int32).toInt = 0 := rfl; omega) (by have f0 := i_rg a5; have f1 := i_le c5; have f2 : (0 : Int32).toInt = 0 := rfl; omega)) (fun r262 s263 hs263 => ?_)
                      have js263 : JC 47890485652059026823698344598447161988085597568483328 s s263 := j_call js6 hs263.1 rfl
                      refine oq_if (fun c89 => ?_) (fun c89 => ?_)
                      · refine oq_b (h_X11_refused _ js263.1 (by have f0 : (3 : Int32).toInt = 3 := rfl; omega)) (fun r264 s265 hs265 => ?_)
                        have js265 : JC 47890485652059026823698344598447161988085597568483328 s s265 := j_call js263 hs265.1 rfl
                        refine oq_c (b01_of (by have f0 := hs265.2.1; have f1 := i_rg r264; omega)) ?_
                        exact ⟨js265, (by have f0 := hs265.2.1; have f1 := i_rg r264; omega), fun _ => trivial, fun c9 => False.elim (by have f0 := hs265.2.1; have f1 := i_rg r264; have f2 := i_ne c9; have f3 : (0 : Int32).toInt = 0 := rfl; omega)⟩
                      · refine oq_b (h_X8_reachesTo_13 _ _ js263.1 (by have f0 := i_rg a4; have f1 := i_nlt c4; have f2 : (0 : Int32).toInt = 0 := rfl; omega) (by have f0 := i_rg a5; have f1 := i_le c5; have f2 := (hs263.2.2.2 c89); have f3 : (0 : Int32).toInt = 0 := rfl; have f4 := i_rg a2; have f5 : (60 : Int32).toInt = 60 := rfl; have f6 := i_nlt c3; omega)) (fun r266 s267 hs267 => ?_)
                        have js267 : JC 47890485652059026823698344598447161988085597568483328 s s267 := j_call js263 hs267.1 rfl
                        refine oq_if (fun c90 => ?_) (fun c90 => ?_)
                        · refine oq_b (h_X11_refused _ js267.1 (by have f0 : (3 : Int32).toInt = 3 := rfl; omega)) (fun r268 s269 hs269 => ?_)
                          have js269 : JC 47890485652059026823698344598447161988085597568483328 s s269 := j_call js267 hs269.1 rfl
                          refine oq_c (b01_of (by have f0 := hs269.2.1; have f1 := i_rg r268; omega)) ?_
                          exact ⟨js269, (by have f0 := hs269.2.1; have f1 := i_rg r268; omega), fun _ => trivial, fun c9 => False.elim (by have f0 := hs269.2.1; have f1 := i_rg r268; have f2 := i_ne c9; have f3 : (0 : Int32).toInt = 0 := rfl; omega)⟩
                        · refine oq_c ⟨(nlt_of (by have f0 := i_rg a2; have f1 := i_nlt c3; have f2 := (hs263.2.2.2 c89); have f3 := (hs267.2.2.2 c90); have f4 : (0 : Int32).toInt = 0 := rfl; have f5 := i_rg a5; have f6 : (60 : Int32).toInt = 60 := rfl; have f7 := i_rg a4; have f8 := i_nlt c4; have f9 := i_le c5; omega)), (nlt_of (by have f0 := i_rg a4; have f1 := i_nlt c4; have f2 := (hs267.2.2.2 c90); have f3 : (0 : Int32).toInt = 0 := rfl; have f4 := i_rg a5; have f5 : (60 : Int32).toInt = 60 := rfl; have f6 := i_le c5; have f7 := (hs263.2.2.2 c89); have f8 := i_rg a2; have f9 := i_nlt c3; omega)), (nlt_of (by have f0 := i_rg a5; have f1 := i_le c5; have f2 := (hs263.2.2.2 c89); have f3 := (hs267.2.2.2 c90); have f4 : (0 : Int32).toInt = 0 := rfl; have f5 := i_rg a2; have f6 : (60 : Int32).toInt = 60 := rfl; have f7 := i_rg a4; have f8 := i_nlt c3; have f9 := i_nlt c4; omega)), (by have f0 := i_rg a2; have f1 := i_rg a5; have f2 := i_nlt c3; have f3 := i_le c5; have f4 := (hs263.2.2.2 c89); have f5 := (hs267.2.2.2 c90); have f6 : (0 : Int32).toInt = 0 := rfl; have f7 : (60 : Int32).toInt = 60 := rfl; have f8 := i_rg a4; have f9 := i_nlt c4; have f10 := cl_nat (a2); have f11 := cl_nat (a5); omega), (by have f0 := i_rg a4; have f1 := i_rg a5; have f2 := i_nlt c4; have f3 := i_le c5; have f4 := (hs263.2.2.2 c89); have f5 := (hs267.2.2.2 c90); have f6 : (0 : Int32).toInt = 0 := rfl; have f7 := i_rg a2; have f8 : (60 : Int32).toInt = 60 := rfl; have f9 := i_nlt c3; have f10 := cl_nat (a4); have f11 := cl_nat (a5); omega)⟩ ?_
                          refine oq_b (h_X11_granted  (j_cb js267 17 (fun _ => rfl) rfl).1) (fun r270 s271 hs271 => ?_)
                          have js271 : JC 47890485652059026823698344598447161988085597568483328 s s271 := j_call (j_cb js267 17 (fun _ => rfl) rfl) hs271.1 rfl
                          refine oq_c (b01_of (by have f0 := hs271.2.1; have f1 := i_rg r270; omega)) ?_
                          exact ⟨js271, (by have f0 := hs271.2.1; have f1 := i_rg r270; omega), fun c9 => False.elim (by have f0 := hs271.2.1; have f1 := i_rg r270; have f2 := i_eq c9; have f3 : (0 : Int32).toInt = 0 := rfl; omega), fun c9 => ⟨(by have f0 : (0 : Int32).toInt = 0 := rfl; have f1 := i_rg a1; have f2 := (hs2.2.2.2 c1).1; have f3 := (hs2.2.2.2 c1).2; have f4 := ek5; have f5 : (3 : Int32).toInt = 3 := rfl; omega), (by have f0 := i_rg a1; have f1 : (3 : Int32).toInt = 3 := rfl; have f2 := (hs2.2.2.2 c1).1; have f3 := (hs2.2.2.2 c1).2; have f4 := ek5; have f5 : (0 : Int32).toInt = 0 := rfl; omega), (by have f0 : (0 : Int32).toInt = 0 := rfl; have f1 := i_rg a2; have f2 := i_nlt c3; have f3 := (hs263.2.2.2 c89); have f4 := (hs267.2.2.2 c90); have f5 := i_rg a5; have f6 : (60 : Int32).toInt = 60 := rfl; have f7 := i_rg a4; have f8 := i_nlt c4; have f9 := i_le c5; omega), (by have f0 : (0 : Int32).toInt = 0 := rfl; have f1 := i_rg a3; have f2 := (hs6.2.2.2 c2).1; have f3 := (hs6.2.2.2 c2).2; have f4 := ek69; have f5 : (3 : Int32).toInt = 3 := rfl; omega), (by have f0 := i_rg a3; have f1 : (3 : Int32).toInt = 3 := rfl; have f2 := (hs6.2.2.2 c2).1; have f3 := (hs6.2.2.2 c2).2; have f4 := ek69; have f5 : (0 : Int32).toInt = 0 := rfl; omega), (by have f0 : (0 : Int32).toInt = 0 := rfl; have f1 := i_rg a4; have f2 := i_nlt c4; have f3 := (hs267.2.2.2 c90); have f4 := i_rg a5; have f5 : (60 : Int32).toInt = 60 := rfl; have f6 := i_le c5; have f7 := (hs263.2.2.2 c89); have f8 := i_rg a2; have f9 := i_nlt c3; omega), (by have f0 : (0 : Int32).toInt = 0 := rfl; have f1 := i_rg a5; have f2 := i_le c5; have f3 := (hs263.2.2.2 c89); have f4 := (hs267.2.2.2 c90); have f5 := i_rg a2; have f6 : (60 : Int32).toInt = 60 := rfl; have f7 := i_rg a4; have f8 := i_nlt c3; have f9 := i_nlt c4; omega)⟩⟩
                    · refine oq_b (h_X11_refused _ js6.1 (by have f0 : (8 : Int32).toInt = 8 := rfl; omega)) (fun r272 s273 hs273 => ?_)
                      have js273 : JC 47890485652059026823698344598447161988085597568483328 s s273 := j_call js6 hs273.1 rfl
                      refine oq_c (b01_of (by have f0 := hs273.2.1; have f1 := i_rg r272; omega)) ?_
                      exact ⟨js273, (by have f0 := hs273.2.1; have f1 := i_rg r272; omega), fun _ => trivial, fun c9 => False.elim (by have f0 := hs273.2.1; have f1 := i_rg r272; have f2 := i_ne c9; have f3 : (0 : Int32).toInt = 0 := rfl; omega)⟩
          · refine oq_b (h_X11_refused _ js6.1 (by have f0 : (1 : Int32).toInt = 1 := rfl; omega)) (fun r274 s275 hs275 => ?_)
            have js275 : JC 47890485652059026823698344598447161988085597568483328 s s275 := j_call js6 hs275.1 rfl
            refine oq_c (b01_of (by have f0 := hs275.2.1; have f1 := i_rg r274; omega)) ?_
            exact ⟨js275, (by have f0 := hs275.2.1; have f1 := i_rg r274; omega), fun _ => trivial, fun c9 => False.elim (by have f0 := hs275.2.1; have f1 := i_rg r274; have f2 := i_ne c9; have f3 : (0 : Int32).toInt = 0 := rfl; omega)⟩
theorem h_X11_putOnTape_b3 {s0 : Sg} (n : Nat) : ∀ (v1 : Int32) (v2 : Int32) (s : Sg), JC 11972621413014756705924586149611790497021399392059394 s0 s → (-2147483648) ≤ v2.toInt ∧ v2.toInt ≤ 24 → v2.toInt - (-2147483648) < (n : Int) → OQ (f_X11_putOnTape_b3 n v1 v2 s) (fun _ s9 => JC 11972621413014756705924586149611790497021399392059394 s0 s9 ∧ True) := by
  induction n with
  | zero => intro v1 v2 s hJ p_v2 hn; exact False.elim (by have g0 := hn; have g1 := p_v2; omega)
  | succ n ih =>
    intro v1 v2 s hJ p_v2 hn
    unfold f_X11_putOnTape_b3
    refine oq_if (fun c1 => ?_) (fun c1 => ?_)
    · exact ⟨hJ, trivial⟩
    · refine oq_if (fun c2 => ?_) (fun c2 => ?_)
      · exact ih _ _ _ hJ (by have f0 := i_add (v2) (((-8) : Int32)); have f1 := p_v2; have f2 := i_rg v2; have f3 : ((-8) : Int32).toInt = (-8) := rfl; have f4 := i_nlt c1; have f5 : (0 : Int32).toInt = 0 := rfl; omega) (by have g0 := i_add (v2) (((-8) : Int32)); have g1 := i_rg v1; have g2 := p_v2; have g3 := i_rg v2; have g4 : ((-8) : Int32).toInt = (-8) := rfl; have g5 := i_nlt c1; have g6 : (0 : Int32).toInt = 0 := rfl; have g7 := hn; omega)
      · refine oq_c (inr_of (by have f0 := j_rd hJ 0 13 rfl; have f1 := i_nle c2; have f2 : (900 : Int32).toInt = 900 := rfl; omega)) ?_
        refine oq_n (fun s2 es2 => ?_)
        have js2 : JC 11972621413014756705924586149611790497021399392059394 s0 s2 := by rw [es2]; exact (j_wf hJ rfl 1 rfl rfl)
        exact ih _ _ _ (j_wr js2 rfl 173 rfl rfl (by have f0 := i_add (s2.1 0 13) ((1 : Int32)); have f1 := j_rd js2 0 13 rfl; have f2 : (s2.1 0 13).toInt = (s.1 0 13).toInt := (by rw [es2]; exact u_nc rfl); have f3 : (1 : Int32).toInt = 1 := rfl; have f4 := j_rd hJ 0 13 rfl; have f5 := i_nle c2; have f6 : (900 : Int32).toInt = 900 := rfl; omega)) (by have f0 := i_add (v2) (((-8) : Int32)); have f1 := p_v2; have f2 := i_rg v2; have f3 : ((-8) : Int32).toInt = (-8) := rfl; have f4 := i_nlt c1; have f5 : (0 : Int32).toInt = 0 := rfl; omega) (by have g0 := i_add (v2) (((-8) : Int32)); have g1 := i_rg v1; have g2 := p_v2; have g3 := i_rg v2; have g4 : ((-8) : Int32).toInt = (-8) := rfl; have g5 := i_nlt c1; have g6 : (0 : Int32).toInt = 0 := rfl; have g7 := hn; omega)
theorem h_X11_putOnTape (a1 : Int32) {s : Sg} (hR : Rg rC s) : OQ (f_X11_putOnTape a1 s) (fun _ s9 => JC 11972621413014756705924586149611790497021399392059394 s s9 ∧ True) := by
  have hJ : JC 11972621413014756705924586149611790497021399392059394 s s := j_refl hR
  unfold f_X11_putOnTape
  exact h_X11_putOnTape_b3 BIG _ _ _ hJ (by have f0 : (24 : Int32).toInt = 24 := rfl; omega) (by have g0 := i_rg a1; have g1 : (24 : Int32).toInt = 24 := rfl; have g2 : BIG = 4294967296 := rfl; omega)
theorem h_X11_feed (a1 : Int32) (a2 : Int32) (a3 : Int32) (a4 : Int32) (a5 : Int32) {s : Sg} (hR : Rg rC s) : OQ (f_X11_feed a1 a2 a3 a4 a5 s) (fun r9 s9 => JC 11972621413014756705924586149611790497021399392059394 s s9 ∧ ((-1) ≤ r9.toInt ∧ r9.toInt ≤ 900) ∧ (r9 = 0 → True) ∧ (¬ r9 = 0 → True)) := by
  have hJ : JC 11972621413014756705924586149611790497021399392059394 s s := j_refl hR
  unfold f_X11_feed
  refine oq_if (fun c1 => ?_) (fun c1 => ?_)
  · refine oq_b (h_X11_putOnTape _ hJ.1) (fun u2 s2 hs2 => ?_)
    have js2 : JC 11972621413014756705924586149611790497021399392059394 s s2 := j_call hJ hs2.1 rfl
    refine oq_b (h_X11_putOnTape _ js2.1) (fun u3 s4 hs4 => ?_)
    have js4 : JC 11972621413014756705924586149611790497021399392059394 s s4 := j_call js2 hs4.1 rfl
    refine oq_b (h_X11_putOnTape _ js4.1) (fun u4 s6 hs6 => ?_)
    have js6 : JC 11972621413014756705924586149611790497021399392059394 s s6 := j_call js4 hs6.1 rfl
    refine oq_b (h_X11_putOnTape _ js6.1) (fun u5 s8 hs8 => ?_)
    have js8 : JC 11972621413014756705924586149611790497021399392059394 s s8 := j_call js6 hs8.1 rfl
    refine oq_b (h_X11_putOnTape _ js8.1) (fun u6 s10 hs10 => ?_)
    have js10 : JC 11972621413014756705924586149611790497021399392059394 s s10 := j_call js8 hs10.1 rfl
    exact ⟨js10, (by have f0 := j_rd js10 0 13 rfl; omega), fun _ => trivial, fun _ => trivial⟩
  · exact ⟨hJ, (by have f0 : ((-1) : Int32).toInt = (-1) := rfl; omega), fun c9 => absurd c9 (by decide), fun _ => trivial⟩
theorem h_X7_isLetter (a0 : Int32) {s : Sg} (hR : Rg rC s) (z_7_1 : 1 ≤ (s.1 7 1).toInt ∧ (s.1 7 1).toInt ≤ 900) (z_7_2 : 0 ≤ (s.1 7 2).toInt ∧ (s.1 7 2).toInt ≤ 899) : OQ (f_X7_isLetter a0 s) (fun r9 s9 => JC 0 s s9 ∧ (0 ≤ r9.toInt ∧ r9.toInt ≤ 1) ∧ (r9 = 0 → 1 ≤ (s.1 7 1).toInt ∧ (s.1 7 2).toInt ≤ 899) ∧ (¬ r9 = 0 → 97 ≤ (a0).toInt ∧ (a0).toInt ≤ 122 ∧ 1 ≤ (s.1 7 1).toInt ∧ (s.1 7 2).toInt ≤ 899)) := by
  have hJ : JC 0 s s := j_refl hR
  unfold f_X7_isLetter
  refine oq_if (fun c1 => ?_) (fun c1 => ?_)
  · exact ⟨hJ, (by have f0 : (0 : Int32).toInt = 0 := rfl; omega), fun c9 => ⟨(by have f0 : (1 : Int32).toInt = 1 := rfl; have f1 := z_7_1; have f2 := j_rd hJ 7 1 rfl; omega), (by have f0 := z_7_2; have f1 := j_rd hJ 7 2 rfl; have f2 : (899 : Int32).toInt = 899 := rfl; omega)⟩, fun c9 => absurd rfl c9⟩
  · refine oq_if (fun c2 => ?_) (fun c2 => ?_)
    · exact ⟨hJ, (by have f0 : (0 : Int32).toInt = 0 := rfl; omega), fun c9 => ⟨(by have f0 : (1 : Int32).toInt = 1 := rfl; have f1 := z_7_1; have f2 := j_rd hJ 7 1 rfl; omega), (by have f0 := z_7_2; have f1 := j_rd hJ 7 2 rfl; have f2 : (899 : Int32).toInt = 899 := rfl; omega)⟩, fun c9 => absurd rfl c9⟩
    · exact ⟨hJ, (by have f0 : (1 : Int32).toInt = 1 := rfl; omega), fun c9 => absurd c9 (by decide), fun c9 => ⟨(by have f0 : (97 : Int32).toInt = 97 := rfl; have f1 := i_rg a0; have f2 := i_nlt c1; have f3 := i_nlt c2; have f4 : (122 : Int32).toInt = 122 := rfl; omega), (by have f0 := i_rg a0; have f1 : (122 : Int32).toInt = 122 := rfl; have f2 := i_nlt c1; have f3 := i_nlt c2; have f4 : (97 : Int32).toInt = 97 := rfl; omega), (by have f0 : (1 : Int32).toInt = 1 := rfl; have f1 := z_7_1; have f2 := j_rd hJ 7 1 rfl; omega), (by have f0 := z_7_2; have f1 := j_rd hJ 7 2 rfl; have f2 : (899 : Int32).toInt = 899 := rfl; omega)⟩⟩
theorem h_X7_isDigit (a0 : Int32) {s : Sg} (hR : Rg rC s) (z_7_1 : 1 ≤ (s.1 7 1).toInt ∧ (s.1 7 1).toInt ≤ 900) (z_7_2 : 0 ≤ (s.1 7 2).toInt ∧ (s.1 7 2).toInt ≤ 899) : OQ (f_X7_isDigit a0 s) (fun r9 s9 => JC 0 s s9 ∧ (0 ≤ r9.toInt ∧ r9.toInt ≤ 1) ∧ (r9 = 0 → 1 ≤ (s.1 7 1).toInt ∧ (s.1 7 2).toInt ≤ 899) ∧ (¬ r9 = 0 → 48 ≤ (a0).toInt ∧ (a0).toInt ≤ 57 ∧ 1 ≤ (s.1 7 1).toInt ∧ (s.1 7 2).toInt ≤ 899)) := by
  have hJ : JC 0 s s := j_refl hR
  unfold f_X7_isDigit
  refine oq_if (fun c1 => ?_) (fun c1 => ?_)
  · exact ⟨hJ, (by have f0 : (0 : Int32).toInt = 0 := rfl; omega), fun c9 => ⟨(by have f0 : (1 : Int32).toInt = 1 := rfl; have f1 := z_7_1; have f2 := j_rd hJ 7 1 rfl; omega), (by have f0 := z_7_2; have f1 := j_rd hJ 7 2 rfl; have f2 : (899 : Int32).toInt = 899 := rfl; omega)⟩, fun c9 => absurd rfl c9⟩
  · refine oq_if (fun c2 => ?_) (fun c2 => ?_)
    · exact ⟨hJ, (by have f0 : (0 : Int32).toInt = 0 := rfl; omega), fun c9 => ⟨(by have f0 : (1 : Int32).toInt = 1 := rfl; have f1 := z_7_1; have f2 := j_rd hJ 7 1 rfl; omega), (by have f0 := z_7_2; have f1 := j_rd hJ 7 2 rfl; have f2 : (899 : Int32).toInt = 899 := rfl; omega)⟩, fun c9 => absurd rfl c9⟩
    · exact ⟨hJ, (by have f0 : (1 : Int32).toInt = 1 := rfl; omega), fun c9 => absurd c9 (by decide), fun c9 => ⟨(by have f0 : (48 : Int32).toInt = 48 := rfl; have f1 := i_rg a0; have f2 := i_nlt c1; have f3 := i_nlt c2; have f4 : (57 : Int32).toInt = 57 := rfl; omega), (by have f0 := i_rg a0; have f1 : (57 : Int32).toInt = 57 := rfl; have f2 := i_nlt c1; have f3 := i_nlt c2; have f4 : (48 : Int32).toInt = 48 := rfl; omega), (by have f0 : (1 : Int32).toInt = 1 := rfl; have f1 := z_7_1; have f2 := j_rd hJ 7 1 rfl; omega), (by have f0 := z_7_2; have f1 := j_rd hJ 7 2 rfl; have f2 : (899 : Int32).toInt = 899 := rfl; omega)⟩⟩
theorem h_X7_cutSign_b35 {s0 : Sg} (v1 : Int32) (s : Sg) (hJ : JC 18389946490390666300300164325803710203424869466203226112 s0 s) (p_v1 : 59 ≤ v1.toInt ∧ v1.toInt ≤ 79) (z_7_1 : 1 ≤ (s.1 7 1).toInt ∧ (s.1 7 1).toInt ≤ 900) (z_7_2 : 0 ≤ (s.1 7 2).toInt ∧ (s.1 7 2).toInt ≤ 899) : OQ (f_X7_cutSign_b35 v1 s) (fun _ s9 => JC 18389946490390666300300164325803710203424869466203226112 s0 s9 ∧ True) := by
  unfold f_X7_cutSign_b35
  refine oq_n (fun s3 es3 => ?_)
  have js3 : JC 18389946490390666300300164325803710203424869466203226112 s0 s3 := by rw [es3]; exact (j_wr (j_wf hJ rfl 183 rfl rfl) rfl 182 rfl rfl (by have f0 := i_add ((pI s 7 3 v1).1 7 2) ((1 : Int32)); have f1 : ((pI s 7 3 v1).1 7 2).toInt = (s.1 7 2).toInt := u_ne rfl; have f2 : (1 : Int32).toInt = 1 := rfl; have f3 := z_7_2; have f4 := j_rd hJ 7 2 rfl; omega))
  exact ⟨js3, trivial⟩
theorem h_X7_cutSign  {s : Sg} (hR : Rg rC s) (z_7_1 : 1 ≤ (s.1 7 1).toInt ∧ (s.1 7 1).toInt ≤ 900) (z_7_2 : 0 ≤ (s.1 7 2).toInt ∧ (s.1 7 2).toInt ≤ 899) : OQ (f_X7_cutSign  s) (fun _ s9 => JC 18389946490390666300300164325803710203424869466203226112 s s9 ∧ True) := by
  have hJ : JC 18389946490390666300300164325803710203424869466203226112 s s := j_refl hR
  unfold f_X7_cutSign
  refine oq_c (inr_of (by have f0 := z_7_2; have f1 := j_rd hJ 7 2 rfl; omega)) ?_
  refine oq_n (fun x2 ex2 => ?_)
  refine oq_if (fun c1 => ?_) (fun c1 => ?_)
  · exact h_X7_cutSign_b35 _ _ hJ (by have f0 := i_eq ex2; have f1 := i_rg x2; have f2 := i_rg (s.1 1 ((s.1 7 2).toNatClampNeg)); have f3 := i_eq c1; have f4 : (59 : Int32).toInt = 59 := rfl; omega) (by have f0 := z_7_1; have f1 := j_rd hJ 7 1 rfl; omega) (by have f0 := z_7_2; have f1 := j_rd hJ 7 2 rfl; omega)
  · refine oq_if (fun c2 => ?_) (fun c2 => ?_)
    · exact h_X7_cutSign_b35 _ _ hJ (by have f0 := i_eq ex2; have f1 := i_rg x2; have f2 := i_rg (s.1 1 ((s.1 7 2).toNatClampNeg)); have f3 := i_ne c1; have f4 := i_eq c2; have f5 : (59 : Int32).toInt = 59 := rfl; have f6 : (60 : Int32).toInt = 60 := rfl; omega) (by have f0 := z_7_1; have f1 := j_rd hJ 7 1 rfl; omega) (by have f0 := z_7_2; have f1 := j_rd hJ 7 2 rfl; omega)
    · refine oq_if (fun c3 => ?_) (fun c3 => ?_)
      · exact h_X7_cutSign_b35 _ _ hJ (by have f0 := i_eq ex2; have f1 := i_rg x2; have f2 := i_rg (s.1 1 ((s.1 7 2).toNatClampNeg)); have f3 := i_ne c1; have f4 := i_ne c2; have f5 := i_eq c3; have f6 : (59 : Int32).toInt = 59 := rfl; have f7 : (60 : Int32).toInt = 60 := rfl; have f8 : (62 : Int32).toInt = 62 := rfl; omega) (by have f0 := z_7_1; have f1 := j_rd hJ 7 1 rfl; omega) (by have f0 := z_7_2; have f1 := j_rd hJ 7 2 rfl; omega)
      · refine oq_if (fun c4 => ?_) (fun c4 => ?_)
        · exact h_X7_cutSign_b35 _ _ hJ (by have f0 := i_eq ex2; have f1 := i_rg x2; have f2 := i_rg (s.1 1 ((s.1 7 2).toNatClampNeg)); have f3 := i_ne c1; have f4 := i_ne c2; have f5 := i_ne c3; have f6 := i_eq c4; have f7 : (59 : Int32).toInt = 59 := rfl; have f8 : (60 : Int32).toInt = 60 := rfl; have f9 : (62 : Int32).toInt = 62 := rfl; have f10 : (61 : Int32).toInt = 61 := rfl; omega) (by have f0 := z_7_1; have f1 := j_rd hJ 7 1 rfl; omega) (by have f0 := z_7_2; have f1 := j_rd hJ 7 2 rfl; omega)
        · refine oq_n (fun s4 es4 => ?_)
          have js4 : JC 18389946490390666300300164325803710203424869466203226112 s s4 := by rw [es4]; exact (j_wr (j_wf hJ rfl 183 rfl rfl) rfl 182 rfl rfl (by have f0 := i_add ((pI s 7 3 4).1 7 2) ((1 : Int32)); have f1 : ((pI s 7 3 4).1 7 2).toInt = (s.1 7 2).toInt := u_ne rfl; have f2 : (1 : Int32).toInt = 1 := rfl; have f3 := z_7_2; have f4 := j_rd hJ 7 2 rfl; omega))
          exact ⟨js4, trivial⟩
theorem h_X7_cutNumber_b81 {s0 : Sg}  (s : Sg) (hJ : JC 67429803798099109767767269194613604079224521376078495744 s0 s) (z_7_1 : 1 ≤ (s.1 7 1).toInt ∧ (s.1 7 1).toInt ≤ 900) : OQ (f_X7_cutNumber_b81  s) (fun _ s9 => JC 67429803798099109767767269194613604079224521376078495744 s0 s9 ∧ True) := by
  unfold f_X7_cutNumber_b81
  refine oq_if (fun c1 => ?_) (fun c1 => ?_)
  · exact ⟨(j_wf hJ rfl 183 rfl rfl), trivial⟩
  · exact ⟨(j_wf hJ rfl 183 rfl rfl), trivial⟩
theorem h_X7_cutNumber_b5 {s0 : Sg} (n : Nat) : ∀  (s : Sg), JC 67429803798099109767767269194613604079224521376078495744 s0 s → 1 ≤ (s.1 7 1).toInt ∧ (s.1 7 1).toInt ≤ 900 → 900 - (s.1 7 2).toInt < (n : Int) → OQ (f_X7_cutNumber_b5 n  s) (fun _ s9 => JC 67429803798099109767767269194613604079224521376078495744 s0 s9 ∧ True) := by
  induction n with
  | zero => intro  s hJ z_7_1 hn; exact False.elim (by have g0 := hn; have g1 := z_7_1; have g2 := j_rd hJ 7 2 rfl; omega)
  | succ n ih =>
    intro  s hJ z_7_1 hn
    unfold f_X7_cutNumber_b5
    refine oq_if (fun c1 => ?_) (fun c1 => ?_)
    · exact h_X7_cutNumber_b81  _ hJ (by have f0 := z_7_1; have f1 := j_rd hJ 7 1 rfl; have f2 := i_le c1; have f3 := j_rd hJ 7 2 rfl; omega)
    · refine oq_c (inr_of (by have f0 := j_rd hJ 7 2 rfl; have f1 := i_nle c1; have f2 := z_7_1; have f3 := j_rd hJ 7 1 rfl; omega)) ?_
      refine oq_b (h_X7_isDigit _ hJ.1 (by have f0 := z_7_1; have f1 := j_rd hJ 7 1 rfl; have f2 := i_nle c1; have f3 := j_rd hJ 7 2 rfl; omega) (by have f0 := j_rd hJ 7 2 rfl; have f1 := i_nle c1; have f2 := z_7_1; have f3 := j_rd hJ 7 1 rfl; omega)) (fun r2 s3 hs3 => ?_)
      have js3 : JC 67429803798099109767767269194613604079224521376078495744 s0 s3 := j_call hJ hs3.1 rfl
      refine oq_if (fun c2 => ?_) (fun c2 => ?_)
      · exact h_X7_cutNumber_b81  _ js3 (by have f0 := j_rd js3 7 1 rfl; have f1 : (s3.1 7 1).toInt = (s.1 7 1).toInt := j_fr hs3.1 7 1 181 rfl rfl; have f2 := z_7_1; have f3 := j_rd hJ 7 1 rfl; have f4 := i_nle c1; have f5 := (hs3.2.2.1 c2).1; have f6 := (hs3.2.2.1 c2).2; have f7 := j_rd hJ 7 2 rfl; have f8 : (1 : Int32).toInt = 1 := rfl; have f9 : (899 : Int32).toInt = 899 := rfl; omega)
      · refine oq_if (fun c3 => ?_) (fun c3 => ?_)
        · exact ih  _ (j_wr js3 rfl 182 rfl rfl (by have f0 := i_add (s3.1 7 2) ((1 : Int32)); have f1 := j_rd js3 7 2 rfl; have f2 : (s3.1 7 2).toInt = (s.1 7 2).toInt := j_fr hs3.1 7 2 182 rfl rfl; have f3 : (1 : Int32).toInt = 1 := rfl; have f4 := j_rd hJ 7 2 rfl; have f5 := i_nle c1; have f6 := (hs3.2.2.2 c2).2.2.1; have f7 := (hs3.2.2.2 c2).2.2.2; have f8 := i_le c3; have f9 := i_sub (s3.1 7 2) (s3.1 7 4); have f10 := z_7_1; have f11 := j_rd hJ 7 1 rfl; have f12 : (899 : Int32).toInt = 899 := rfl; have f13 : (4 : Int32).toInt = 4 := rfl; have f14 : (s3.1 7 4).toInt = (s.1 7 4).toInt := j_fr hs3.1 7 4 184 rfl rfl; have f15 := i_rg (s3.1 7 4); have f16 := i_rg (s.1 7 4); omega)) (by have f0 : ((pI s3 7 2 ((s3.1 7 2) + 1)).1 7 1).toInt = (s3.1 7 1).toInt := u_ne rfl; have f1 := j_rd js3 7 1 rfl; have f2 : (s3.1 7 1).toInt = (s.1 7 1).toInt := j_fr hs3.1 7 1 181 rfl rfl; have f3 := z_7_1; have f4 := j_rd hJ 7 1 rfl; have f5 := i_nle c1; have f6 := (hs3.2.2.2 c2).2.2.1; have f7 := (hs3.2.2.2 c2).2.2.2; have f8 := j_rd hJ 7 2 rfl; have f9 : (1 : Int32).toInt = 1 := rfl; have f10 : (899 : Int32).toInt = 899 := rfl; omega) (by have g0 : ((pI s3 7 2 ((s3.1 7 2) + 1)).1 7 2).toInt = ((s3.1 7 2) + 1).toInt := u_eq; have g1 := i_add (s3.1 7 2) ((1 : Int32)); have g2 := j_rd js3 7 2 rfl; have g3 : (s3.1 7 2).toInt = (s.1 7 2).toInt := j_fr hs3.1 7 2 182 rfl rfl; have g4 : (1 : Int32).toInt = 1 := rfl; have g5 := j_rd hJ 7 2 rfl; have g6 := i_nle c1; have g7 := (hs3.2.2.2 c2).2.2.1; have g8 := (hs3.2.2.2 c2).2.2.2; have g9 := i_le c3; have g10 := i_sub (s3.1 7 2) (s3.1 7 4); have g11 := z_7_1; have g12 := j_rd hJ 7 1 rfl; have g13 : (899 : Int32).toInt = 899 := rfl; have g14 : (4 : Int32).toInt = 4 := rfl; have g15 : (s3.1 7 4).toInt = (s.1 7 4).toInt := j_fr hs3.1 7 4 184 rfl rfl; have g16 := i_rg (s3.1 7 4); have g17 := i_rg (s.1 7 4); have g18 := hn; omega)
        · refine oq_c (inr_of (by have f0 := j_rd js3 7 2 rfl; have f1 : (s3.1 7 2).toInt = (s.1 7 2).toInt := j_fr hs3.1 7 2 182 rfl rfl; have f2 := j_rd hJ 7 2 rfl; have f3 := i_nle c1; have f4 := (hs3.2.2.2 c2).2.2.1; have f5 := (hs3.2.2.2 c2).2.2.2; have f6 := i_nle c3; have f7 := i_sub (s3.1 7 2) (s3.1 7 4); have f8 := z_7_1; have f9 := j_rd hJ 7 1 rfl; have f10 : (1 : Int32).toInt = 1 := rfl; have f11 : (899 : Int32).toInt = 899 := rfl; have f12 : (4 : Int32).toInt = 4 := rfl; have f13 : (s3.1 7 4).toInt = (s.1 7 4).toInt := j_fr hs3.1 7 4 184 rfl rfl; have f14 := i_rg (s3.1 7 4); have f15 := i_rg (s.1 7 4); omega)) ?_
          refine oq_n (fun s5 es5 => ?_)
          have js5 : JC 67429803798099109767767269194613604079224521376078495744 s0 s5 := by rw [es5]; exact (j_wf js3 rfl 185 rfl rfl)
          exact ih  _ (j_wr js5 rfl 182 rfl rfl (by have f0 := i_add (s5.1 7 2) ((1 : Int32)); have f1 := j_rd js5 7 2 rfl; have f2 : (s5.1 7 2).toInt = (s3.1 7 2).toInt := (by rw [es5]; exact u_ne rfl); have f3 : (1 : Int32).toInt = 1 := rfl; have f4 := j_rd js3 7 2 rfl; have f5 : (s3.1 7 2).toInt = (s.1 7 2).toInt := j_fr hs3.1 7 2 182 rfl rfl; have f6 := j_rd hJ 7 2 rfl; have f7 := i_nle c1; have f8 := (hs3.2.2.2 c2).2.2.1; have f9 := (hs3.2.2.2 c2).2.2.2; have f10 := i_nle c3; have f11 := i_sub (s3.1 7 2) (s3.1 7 4); have f12 := z_7_1; have f13 := j_rd hJ 7 1 rfl; have f14 : (899 : Int32).toInt = 899 := rfl; have f15 : (4 : Int32).toInt = 4 := rfl; have f16 : (s3.1 7 4).toInt = (s.1 7 4).toInt := j_fr hs3.1 7 4 184 rfl rfl; have f17 := i_rg (s3.1 7 4); have f18 := i_rg (s.1 7 4); omega)) (by have f0 : ((pI s5 7 2 ((s5.1 7 2) + 1)).1 7 1).toInt = (s5.1 7 1).toInt := u_ne rfl; have f1 := j_rd js5 7 1 rfl; have f2 : (s5.1 7 1).toInt = (s3.1 7 1).toInt := (by rw [es5]; exact u_ne rfl); have f3 := j_rd js3 7 1 rfl; have f4 : (s3.1 7 1).toInt = (s.1 7 1).toInt := j_fr hs3.1 7 1 181 rfl rfl; have f5 := z_7_1; have f6 := j_rd hJ 7 1 rfl; have f7 := i_nle c1; have f8 := (hs3.2.2.2 c2).2.2.1; have f9 := (hs3.2.2.2 c2).2.2.2; have f10 := j_rd hJ 7 2 rfl; have f11 : (1 : Int32).toInt = 1 := rfl; have f12 : (899 : Int32).toInt = 899 := rfl; omega) (by have g0 : ((pI s5 7 2 ((s5.1 7 2) + 1)).1 7 2).toInt = ((s5.1 7 2) + 1).toInt := u_eq; have g1 := i_add (s5.1 7 2) ((1 : Int32)); have g2 := j_rd js5 7 2 rfl; have g3 : (s5.1 7 2).toInt = (s3.1 7 2).toInt := (by rw [es5]; exact u_ne rfl); have g4 : (1 : Int32).toInt = 1 := rfl; have g5 := j_rd js3 7 2 rfl; have g6 : (s3.1 7 2).toInt = (s.1 7 2).toInt := j_fr hs3.1 7 2 182 rfl rfl; have g7 := j_rd hJ 7 2 rfl; have g8 := i_nle c1; have g9 := (hs3.2.2.2 c2).2.2.1; have g10 := (hs3.2.2.2 c2).2.2.2; have g11 := i_nle c3; have g12 := i_sub (s3.1 7 2) (s3.1 7 4); have g13 := z_7_1; have g14 := j_rd hJ 7 1 rfl; have g15 : (899 : Int32).toInt = 899 := rfl; have g16 : (4 : Int32).toInt = 4 := rfl; have g17 : (s3.1 7 4).toInt = (s.1 7 4).toInt := j_fr hs3.1 7 4 184 rfl rfl; have g18 := i_rg (s3.1 7 4); have g19 := i_rg (s.1 7 4); have g20 := hn; omega)
theorem h_X7_cutNumber  {s : Sg} (hR : Rg rC s) (z_7_1 : 1 ≤ (s.1 7 1).toInt ∧ (s.1 7 1).toInt ≤ 900) (z_7_2 : 0 ≤ (s.1 7 2).toInt ∧ (s.1 7 2).toInt ≤ 899) : OQ (f_X7_cutNumber  s) (fun _ s9 => JC 67429803798099109767767269194613604079224521376078495744 s s9 ∧ True) := by
  have hJ : JC 67429803798099109767767269194613604079224521376078495744 s s := j_refl hR
  unfold f_X7_cutNumber
  exact h_X7_cutNumber_b5 BIG  _ (j_wf hJ rfl 185 rfl rfl) (by have f0 : ((pI s 7 5 0).1 7 1).toInt = (s.1 7 1).toInt := u_ne rfl; have f1 := z_7_1; have f2 := j_rd hJ 7 1 rfl; omega) (by have g0 : ((pI s 7 5 0).1 7 2).toInt = (s.1 7 2).toInt := u_ne rfl; have g1 := z_7_2; have g2 := j_rd hJ 7 2 rfl; have g3 : BIG = 4294967296 := rfl; omega)
theorem h_X7_cutWord_b5 {s0 : Sg} (n : Nat) : ∀  (s : Sg), JC 104209696778880442368367597846221024486074260308484947968 s0 s → 1 ≤ (s.1 7 1).toInt ∧ (s.1 7 1).toInt ≤ 900 → 900 - (s.1 7 2).toInt < (n : Int) → OQ (f_X7_cutWord_b5 n  s) (fun _ s9 => JC 104209696778880442368367597846221024486074260308484947968 s0 s9 ∧ True) := by
  induction n with
  | zero => intro  s hJ z_7_1 hn; exact False.elim (by have g0 := hn; have g1 := z_7_1; have g2 := j_rd hJ 7 2 rfl; omega)
  | succ n ih =>
    intro  s hJ z_7_1 hn
    unfold f_X7_cutWord_b5
    refine oq_if (fun c1 => ?_) (fun c1 => ?_)
    · exact ⟨hJ, trivial⟩
    · refine oq_c (inr_of (by have f0 := j_rd hJ 7 2 rfl; have f1 := i_nle c1; have f2 := z_7_1; have f3 := j_rd hJ 7 1 rfl; omega)) ?_
      refine oq_b (h_X7_isLetter _ hJ.1 (by have f0 := z_7_1; have f1 := j_rd hJ 7 1 rfl; have f2 := i_nle c1; have f3 := j_rd hJ 7 2 rfl; omega) (by have f0 := j_rd hJ 7 2 rfl; have f1 := i_nle c1; have f2 := z_7_1; have f3 := j_rd hJ 7 1 rfl; omega)) (fun r2 s3 hs3 => ?_)
      have js3 : JC 104209696778880442368367597846221024486074260308484947968 s0 s3 := j_call hJ hs3.1 rfl
      refine oq_if (fun c2 => ?_) (fun c2 => ?_)
      · exact ⟨js3, trivial⟩
      · refine oq_if (fun c3 => ?_) (fun c3 => ?_)
        · exact ih  _ (j_wr js3 rfl 182 rfl rfl (by have f0 := i_add (s3.1 7 2) ((1 : Int32)); have f1 := j_rd js3 7 2 rfl; have f2 : (s3.1 7 2).toInt = (s.1 7 2).toInt := j_fr hs3.1 7 2 182 rfl rfl; have f3 : (1 : Int32).toInt = 1 := rfl; have f4 := j_rd hJ 7 2 rfl; have f5 := i_nle c1; have f6 := (hs3.2.2.2 c2).2.2.1; have f7 := (hs3.2.2.2 c2).2.2.2; have f8 := i_le c3; have f9 := i_sub (s3.1 7 2) (s3.1 7 4); have f10 := z_7_1; have f11 := j_rd hJ 7 1 rfl; have f12 : (899 : Int32).toInt = 899 := rfl; have f13 : (8 : Int32).toInt = 8 := rfl; have f14 : (s3.1 7 4).toInt = (s.1 7 4).toInt := j_fr hs3.1 7 4 184 rfl rfl; have f15 := i_rg (s3.1 7 4); have f16 := i_rg (s.1 7 4); omega)) (by have f0 : ((pI s3 7 2 ((s3.1 7 2) + 1)).1 7 1).toInt = (s3.1 7 1).toInt := u_ne rfl; have f1 := j_rd js3 7 1 rfl; have f2 : (s3.1 7 1).toInt = (s.1 7 1).toInt := j_fr hs3.1 7 1 181 rfl rfl; have f3 := z_7_1; have f4 := j_rd hJ 7 1 rfl; have f5 := i_nle c1; have f6 := (hs3.2.2.2 c2).2.2.1; have f7 := (hs3.2.2.2 c2).2.2.2; have f8 := j_rd hJ 7 2 rfl; have f9 : (1 : Int32).toInt = 1 := rfl; have f10 : (899 : Int32).toInt = 899 := rfl; omega) (by have g0 : ((pI s3 7 2 ((s3.1 7 2) + 1)).1 7 2).toInt = ((s3.1 7 2) + 1).toInt := u_eq; have g1 := i_add (s3.1 7 2) ((1 : Int32)); have g2 := j_rd js3 7 2 rfl; have g3 : (s3.1 7 2).toInt = (s.1 7 2).toInt := j_fr hs3.1 7 2 182 rfl rfl; have g4 : (1 : Int32).toInt = 1 := rfl; have g5 := j_rd hJ 7 2 rfl; have g6 := i_nle c1; have g7 := (hs3.2.2.2 c2).2.2.1; have g8 := (hs3.2.2.2 c2).2.2.2; have g9 := i_le c3; have g10 := i_sub (s3.1 7 2) (s3.1 7 4); have g11 := z_7_1; have g12 := j_rd hJ 7 1 rfl; have g13 : (899 : Int32).toInt = 899 := rfl; have g14 : (8 : Int32).toInt = 8 := rfl; have g15 : (s3.1 7 4).toInt = (s.1 7 4).toInt := j_fr hs3.1 7 4 184 rfl rfl; have g16 := i_rg (s3.1 7 4); have g17 := i_rg (s.1 7 4); have g18 := hn; omega)
        · refine oq_c (inr_of (by have f0 := j_rd js3 7 2 rfl; have f1 : (s3.1 7 2).toInt = (s.1 7 2).toInt := j_fr hs3.1 7 2 182 rfl rfl; have f2 := j_rd hJ 7 2 rfl; have f3 := i_nle c1; have f4 := (hs3.2.2.2 c2).2.2.1; have f5 := (hs3.2.2.2 c2).2.2.2; have f6 := i_nle c3; have f7 := i_sub (s3.1 7 2) (s3.1 7 4); have f8 := z_7_1; have f9 := j_rd hJ 7 1 rfl; have f10 : (1 : Int32).toInt = 1 := rfl; have f11 : (899 : Int32).toInt = 899 := rfl; have f12 : (8 : Int32).toInt = 8 := rfl; have f13 : (s3.1 7 4).toInt = (s.1 7 4).toInt := j_fr hs3.1 7 4 184 rfl rfl; have f14 := i_rg (s3.1 7 4); have f15 := i_rg (s.1 7 4); omega)) ?_
          refine oq_n (fun s5 es5 => ?_)
          have js5 : JC 104209696778880442368367597846221024486074260308484947968 s0 s5 := by rw [es5]; exact (j_wl js3 186 rfl rfl)
          exact ih  _ (j_wr js5 rfl 182 rfl rfl (by have f0 := i_add (s5.1 7 2) ((1 : Int32)); have f1 := j_rd js5 7 2 rfl; have f2 : (s5.1 7 2).toInt = (s3.1 7 2).toInt := (by rw [es5]; exact rfl); have f3 : (1 : Int32).toInt = 1 := rfl; have f4 := j_rd js3 7 2 rfl; have f5 : (s3.1 7 2).toInt = (s.1 7 2).toInt := j_fr hs3.1 7 2 182 rfl rfl; have f6 := j_rd hJ 7 2 rfl; have f7 := i_nle c1; have f8 := (hs3.2.2.2 c2).2.2.1; have f9 := (hs3.2.2.2 c2).2.2.2; have f10 := i_nle c3; have f11 := i_sub (s3.1 7 2) (s3.1 7 4); have f12 := z_7_1; have f13 := j_rd hJ 7 1 rfl; have f14 : (899 : Int32).toInt = 899 := rfl; have f15 : (8 : Int32).toInt = 8 := rfl; have f16 : (s3.1 7 4).toInt = (s.1 7 4).toInt := j_fr hs3.1 7 4 184 rfl rfl; have f17 := i_rg (s3.1 7 4); have f18 := i_rg (s.1 7 4); omega)) (by have f0 : ((pI s5 7 2 ((s5.1 7 2) + 1)).1 7 1).toInt = (s5.1 7 1).toInt := u_ne rfl; have f1 := j_rd js5 7 1 rfl; have f2 : (s5.1 7 1).toInt = (s3.1 7 1).toInt := (by rw [es5]; exact rfl); have f3 := j_rd js3 7 1 rfl; have f4 : (s3.1 7 1).toInt = (s.1 7 1).toInt := j_fr hs3.1 7 1 181 rfl rfl; have f5 := z_7_1; have f6 := j_rd hJ 7 1 rfl; have f7 := i_nle c1; have f8 := (hs3.2.2.2 c2).2.2.1; have f9 := (hs3.2.2.2 c2).2.2.2; have f10 := j_rd hJ 7 2 rfl; have f11 : (1 : Int32).toInt = 1 := rfl; have f12 : (899 : Int32).toInt = 899 := rfl; omega) (by have g0 : ((pI s5 7 2 ((s5.1 7 2) + 1)).1 7 2).toInt = ((s5.1 7 2) + 1).toInt := u_eq; have g1 := i_add (s5.1 7 2) ((1 : Int32)); have g2 := j_rd js5 7 2 rfl; have g3 : (s5.1 7 2).toInt = (s3.1 7 2).toInt := (by rw [es5]; exact rfl); have g4 : (1 : Int32).toInt = 1 := rfl; have g5 := j_rd js3 7 2 rfl; have g6 : (s3.1 7 2).toInt = (s.1 7 2).toInt := j_fr hs3.1 7 2 182 rfl rfl; have g7 := j_rd hJ 7 2 rfl; have g8 := i_nle c1; have g9 := (hs3.2.2.2 c2).2.2.1; have g10 := (hs3.2.2.2 c2).2.2.2; have g11 := i_nle c3; have g12 := i_sub (s3.1 7 2) (s3.1 7 4); have g13 := z_7_1; have g14 := j_rd hJ 7 1 rfl; have g15 : (899 : Int32).toInt = 899 := rfl; have g16 : (8 : Int32).toInt = 8 := rfl; have g17 : (s3.1 7 4).toInt = (s.1 7 4).toInt := j_fr hs3.1 7 4 184 rfl rfl; have g18 := i_rg (s3.1 7 4); have g19 := i_rg (s.1 7 4); have g20 := hn; omega)
theorem h_X7_cutWord  {s : Sg} (hR : Rg rC s) (z_7_1 : 1 ≤ (s.1 7 1).toInt ∧ (s.1 7 1).toInt ≤ 900) (z_7_2 : 0 ≤ (s.1 7 2).toInt ∧ (s.1 7 2).toInt ≤ 899) : OQ (f_X7_cutWord  s) (fun _ s9 => JC 104209696778880442368367597846221024486074260308484947968 s s9 ∧ True) := by
  have hJ : JC 104209696778880442368367597846221024486074260308484947968 s s := j_refl hR
  unfold f_X7_cutWord
  exact h_X7_cutWord_b5 BIG  _ (j_wl hJ 186 rfl rfl) (by have f0 : ((pL s 7 6 0).1 7 1).toInt = (s.1 7 1).toInt := rfl; have f1 := z_7_1; have f2 := j_rd hJ 7 1 rfl; omega) (by have g0 : ((pL s 7 6 0).1 7 2).toInt = (s.1 7 2).toInt := rfl; have g1 := z_7_2; have g2 := j_rd hJ 7 2 rfl; have g3 : BIG = 4294967296 := rfl; omega)
theorem h_X7_kindOfWord_b8 {s0 : Sg} (n : Nat) : ∀ (v0 : Int64) (v2 : Int32) (v3 : Int64) (v5 : Int32) (s : Sg), JC 0 s0 s → 0 ≤ v5.toInt ∧ v5.toInt ≤ 167 → 1 ≤ (s.1 7 1).toInt ∧ (s.1 7 1).toInt ≤ 900 → 167 - v5.toInt < (n : Int) → OQ (f_X7_kindOfWord_b8 n v0 v2 v3 v5 s) (fun r9 s9 => JC 0 s0 s9 ∧ True ∧ (r9 = 0 → True) ∧ (¬ r9 = 0 → True)) := by
  induction n with
  | zero => intro v0 v2 v3 v5 s hJ p_v5 z_7_1 hn; exact False.elim (by have g0 := hn; have g1 := p_v5; have g2 := z_7_1; omega)
  | succ n ih =>
    intro v0 v2 v3 v5 s hJ p_v5 z_7_1 hn
    unfold f_X7_kindOfWord_b8
    refine oq_if (fun c1 => ?_) (fun c1 => ?_)
    · exact ⟨hJ, trivial, fun c9 => absurd c9 (by decide), fun _ => trivial⟩
    · refine oq_c (inr_of (by have f0 := p_v5; have f1 := i_rg v5; have f2 := i_nle c1; have f3 : (167 : Int32).toInt = 167 := rfl; omega)) ?_
      refine oq_n (fun x1 ex1 => ?_)
      refine oq_if (fun c2 => ?_) (fun c2 => ?_)
      · refine oq_if (fun c3 => ?_) (fun c3 => ?_)
        · exact ⟨hJ, trivial, fun _ => trivial, fun _ => trivial⟩
        · exact ih _ _ _ _ _ hJ (by have f0 := i_add (v5) ((1 : Int32)); have f1 := p_v5; have f2 := i_rg v5; have f3 : (1 : Int32).toInt = 1 := rfl; have f4 := i_nle c1; have f5 : (167 : Int32).toInt = 167 := rfl; omega) (by have f0 := z_7_1; have f1 := j_rd hJ 7 1 rfl; omega) (by have g0 := i_add (v2) ((1 : Int32)); have g1 := i_add (v5) ((1 : Int32)); have g2 := i_rg v2; have g3 : (1 : Int32).toInt = 1 := rfl; have g4 : (0 : Int32).toInt = 0 := rfl; have g5 := p_v5; have g6 := i_rg v5; have g7 := i_nle c1; have g8 : (167 : Int32).toInt = 167 := rfl; have g9 := hn; omega)
      · refine oq_n (fun x2 ex2 => ?_)
        exact ih _ _ _ _ _ hJ (by have f0 := i_add (v5) ((1 : Int32)); have f1 := p_v5; have f2 := i_rg v5; have f3 : (1 : Int32).toInt = 1 := rfl; have f4 := i_nle c1; have f5 : (167 : Int32).toInt = 167 := rfl; omega) (by have f0 := z_7_1; have f1 := j_rd hJ 7 1 rfl; omega) (by have g0 := i_add (v5) ((1 : Int32)); have g1 := i_rg v2; have g2 := p_v5; have g3 := i_rg v5; have g4 : (1 : Int32).toInt = 1 := rfl; have g5 := i_nle c1; have g6 : (167 : Int32).toInt = 167 := rfl; have g7 := hn; omega)
theorem h_X7_kindOfWord (a0 : Int64) {s : Sg} (hR : Rg rC s) (z_7_1 : 1 ≤ (s.1 7 1).toInt ∧ (s.1 7 1).toInt ≤ 900) : OQ (f_X7_kindOfWord a0 s) (fun r9 s9 => JC 0 s s9 ∧ True ∧ (r9 = 0 → True) ∧ (¬ r9 = 0 → True)) := by
  have hJ : JC 0 s s := j_refl hR
  unfold f_X7_kindOfWord
  exact h_X7_kindOfWord_b8 BIG _ _ _ _ _ hJ (by have f0 : (0 : Int32).toInt = 0 := rfl; omega) (by have f0 := z_7_1; have f1 := j_rd hJ 7 1 rfl; omega) (by have g0 : (100 : Int32).toInt = 100 := rfl; have g1 : (0 : Int32).toInt = 0 := rfl; have g2 : BIG = 4294967296 := rfl; omega)
theorem h_X7_advance_b52 {s0 : Sg}  (s : Sg) (hJ : JC 190029447067370218436435031366638338768723651150766669824 s0 s) : OQ (f_X7_advance_b52  s) (fun _ s9 => JC 190029447067370218436435031366638338768723651150766669824 s0 s9 ∧ True) := by
  unfold f_X7_advance_b52
  refine oq_if (fun c1 => ?_) (fun c1 => ?_)
  · refine oq_c (inr_of (by have f0 := i_lt c1; omega)) ?_
    refine oq_b (h_X7_isLetter _ (j_wf hJ rfl 184 rfl rfl).1 (by have f0 := i_lt c1; omega) (by have f0 := i_lt c1; omega)) (fun r2 s3 hs3 => ?_)
    have js3 : JC 190029447067370218436435031366638338768723651150766669824 s0 s3 := j_call (j_wf hJ rfl 184 rfl rfl) hs3.1 rfl
    refine oq_if (fun c2 => ?_) (fun c2 => ?_)
    · refine oq_c (inr_of (by have f0 := j_rd js3 7 2 rfl; have f1 : (s3.1 7 2).toInt = ((pI s 7 4 (s.1 7 2)).1 7 2).toInt := j_fr hs3.1 7 2 182 rfl rfl; have f2 : ((pI s 7 4 (s.1 7 2)).1 7 2).toInt = (s.1 7 2).toInt := u_ne rfl; have f3 := j_rd hJ 7 2 rfl; have f4 := i_lt c1; have f5 := (hs3.2.2.1 c2).1; have f6 := (hs3.2.2.1 c2).2; have f7 : ((pI s 7 4 (s.1 7 2)).1 7 1).toInt = (s.1 7 1).toInt := u_ne rfl; have f8 : (1 : Int32).toInt = 1 := rfl; have f9 : (899 : Int32).toInt = 899 := rfl; have f10 := j_rd hJ 7 1 rfl; omega)) ?_
      refine oq_b (h_X7_isDigit _ js3.1 (by have f0 := j_rd js3 7 1 rfl; have f1 : (s3.1 7 1).toInt = ((pI s 7 4 (s.1 7 2)).1 7 1).toInt := j_fr hs3.1 7 1 181 rfl rfl; have f2 : ((pI s 7 4 (s.1 7 2)).1 7 1).toInt = (s.1 7 1).toInt := u_ne rfl; have f3 := j_rd hJ 7 1 rfl; have f4 := i_lt c1; have f5 := (hs3.2.2.1 c2).1; have f6 := (hs3.2.2.1 c2).2; have f7 : ((pI s 7 4 (s.1 7 2)).1 7 2).toInt = (s.1 7 2).toInt := u_ne rfl; have f8 : (1 : Int32).toInt = 1 := rfl; have f9 : (899 : Int32).toInt = 899 := rfl; have f10 := j_rd hJ 7 2 rfl; omega) (by have f0 := j_rd js3 7 2 rfl; omega)) (fun r5 s6 hs6 => ?_)
      have js6 : JC 190029447067370218436435031366638338768723651150766669824 s0 s6 := j_call js3 hs6.1 rfl
      refine oq_if (fun c3 => ?_) (fun c3 => ?_)
      · refine oq_b (h_X7_cutSign  js6.1 (by have f0 := j_rd js6 7 1 rfl; have f1 : (s6.1 7 1).toInt = (s3.1 7 1).toInt := j_fr hs6.1 7 1 181 rfl rfl; have f2 := j_rd js3 7 1 rfl; have f3 : (s3.1 7 1).toInt = ((pI s 7 4 (s.1 7 2)).1 7 1).toInt := j_fr hs3.1 7 1 181 rfl rfl; have f4 : ((pI s 7 4 (s.1 7 2)).1 7 1).toInt = (s.1 7 1).toInt := u_ne rfl; have f5 := j_rd hJ 7 1 rfl; have f6 := i_lt c1; have f7 := (hs3.2.2.1 c2).1; have f8 := (hs3.2.2.1 c2).2; have f9 := (hs6.2.2.1 c3).1; have f10 : ((pI s 7 4 (s.1 7 2)).1 7 2).toInt = (s.1 7 2).toInt := u_ne rfl; have f11 : (1 : Int32).toInt = 1 := rfl; have f12 : (899 : Int32).toInt = 899 := rfl; have f13 := j_rd hJ 7 2 rfl; omega) (by have f0 := j_rd js6 7 2 rfl; have f1 : (s6.1 7 2).toInt = (s3.1 7 2).toInt := j_fr hs6.1 7 2 182 rfl rfl; have f2 := j_rd js3 7 2 rfl; have f3 : (s3.1 7 2).toInt = ((pI s 7 4 (s.1 7 2)).1 7 2).toInt := j_fr hs3.1 7 2 182 rfl rfl; have f4 : ((pI s 7 4 (s.1 7 2)).1 7 2).toInt = (s.1 7 2).toInt := u_ne rfl; have f5 := j_rd hJ 7 2 rfl; have f6 := i_lt c1; have f7 := (hs3.2.2.1 c2).1; have f8 := (hs3.2.2.1 c2).2; have f9 := (hs6.2.2.1 c3).2; have f10 : ((pI s 7 4 (s.1 7 2)).1 7 1).toInt = (s.1 7 1).toInt := u_ne rfl; have f11 : (1 : Int32).toInt = 1 := rfl; have f12 : (899 : Int32).toInt = 899 := rfl; have f13 := j_rd hJ 7 1 rfl; omega)) (fun u4 s8 hs8 => ?_)
        have js8 : JC 190029447067370218436435031366638338768723651150766669824 s0 s8 := j_call js6 hs8.1 rfl
        exact ⟨js8, trivial⟩
      · refine oq_b (h_X7_cutNumber  js6.1 (by have f0 := j_rd js6 7 1 rfl; have f1 : (s6.1 7 1).toInt = (s3.1 7 1).toInt := j_fr hs6.1 7 1 181 rfl rfl; have f2 := j_rd js3 7 1 rfl; have f3 : (s3.1 7 1).toInt = ((pI s 7 4 (s.1 7 2)).1 7 1).toInt := j_fr hs3.1 7 1 181 rfl rfl; have f4 : ((pI s 7 4 (s.1 7 2)).1 7 1).toInt = (s.1 7 1).toInt := u_ne rfl; have f5 := j_rd hJ 7 1 rfl; have f6 := i_lt c1; have f7 := (hs3.2.2.1 c2).1; have f8 := (hs3.2.2.1 c2).2; have f9 := (hs6.2.2.2 c3).2.2.1; have f10 : ((pI s 7 4 (s.1 7 2)).1 7 2).toInt = (s.1 7 2).toInt := u_ne rfl; have f11 : (1 : Int32).toInt = 1 := rfl; have f12 : (899 : Int32).toInt = 899 := rfl; have f13 := j_rd hJ 7 2 rfl; omega) (by have f0 := j_rd js6 7 2 rfl; have f1 : (s6.1 7 2).toInt = (s3.1 7 2).toInt := j_fr hs6.1 7 2 182 rfl rfl; have f2 := j_rd js3 7 2 rfl; have f3 : (s3.1 7 2).toInt = ((pI s 7 4 (s.1 7 2)).1 7 2).toInt := j_fr hs3.1 7 2 182 rfl rfl; have f4 : ((pI s 7 4 (s.1 7 2)).1 7 2).toInt = (s.1 7 2).toInt := u_ne rfl; have f5 := j_rd hJ 7 2 rfl; have f6 := i_lt c1; have f7 := (hs3.2.2.1 c2).1; have f8 := (hs3.2.2.1 c2).2; have f9 := (hs6.2.2.2 c3).2.2.2; have f10 : ((pI s 7 4 (s.1 7 2)).1 7 1).toInt = (s.1 7 1).toInt := u_ne rfl; have f11 : (1 : Int32).toInt = 1 := rfl; have f12 : (899 : Int32).toInt = 899 := rfl; have f13 := j_rd hJ 7 1 rfl; omega)) (fun u5 s10 hs10 => ?_)
        have js10 : JC 190029447067370218436435031366638338768723651150766669824 s0 s10 := j_call js6 hs10.1 rfl
        exact ⟨js10, trivial⟩
    · refine oq_b (h_X7_cutWord  js3.1 (by have f0 := j_rd js3 7 1 rfl; have f1 : (s3.1 7 1).toInt = ((pI s 7 4 (s.1 7 2)).1 7 1).toInt := j_fr hs3.1 7 1 181 rfl rfl; have f2 : ((pI s 7 4 (s.1 7 2)).1 7 1).toInt = (s.1 7 1).toInt := u_ne rfl; have f3 := j_rd hJ 7 1 rfl; have f4 := i_lt c1; have f5 := (hs3.2.2.2 c2).2.2.1; have f6 := (hs3.2.2.2 c2).2.2.2; have f7 : ((pI s 7 4 (s.1 7 2)).1 7 2).toInt = (s.1 7 2).toInt := u_ne rfl; have f8 : (1 : Int32).toInt = 1 := rfl; have f9 : (899 : Int32).toInt = 899 := rfl; have f10 := j_rd hJ 7 2 rfl; omega) (by have f0 := j_rd js3 7 2 rfl; have f1 : (s3.1 7 2).toInt = ((pI s 7 4 (s.1 7 2)).1 7 2).toInt := j_fr hs3.1 7 2 182 rfl rfl; have f2 : ((pI s 7 4 (s.1 7 2)).1 7 2).toInt = (s.1 7 2).toInt := u_ne rfl; have f3 := j_rd hJ 7 2 rfl; have f4 := i_lt c1; have f5 := (hs3.2.2.2 c2).2.2.1; have f6 := (hs3.2.2.2 c2).2.2.2; have f7 : ((pI s 7 4 (s.1 7 2)).1 7 1).toInt = (s.1 7 1).toInt := u_ne rfl; have f8 : (1 : Int32).toInt = 1 := rfl; have f9 : (899 : Int32).toInt = 899 := rfl; have f10 := j_rd hJ 7 1 rfl; omega)) (fun u6 s12 hs12 => ?_)
      have js12 : JC 190029447067370218436435031366638338768723651150766669824 s0 s12 := j_call js3 hs12.1 rfl
      refine oq_if (fun c7 => ?_) (fun c7 => ?_)
      · refine oq_b (h_X7_kindOfWord _ js12.1 (by have f0 := j_rd js12 7 1 rfl; have f1 : (s12.1 7 1).toInt = (s3.1 7 1).toInt := j_fr hs12.1 7 1 181 rfl rfl; have f2 := j_rd js3 7 1 rfl; have f3 : (s3.1 7 1).toInt = ((pI s 7 4 (s.1 7 2)).1 7 1).toInt := j_fr hs3.1 7 1 181 rfl rfl; have f4 : ((pI s 7 4 (s.1 7 2)).1 7 1).toInt = (s.1 7 1).toInt := u_ne rfl; have f5 := j_rd hJ 7 1 rfl; have f6 := i_lt c1; have f7 := (hs3.2.2.2 c2).2.2.1; have f8 := (hs3.2.2.2 c2).2.2.2; have f9 : ((pI s 7 4 (s.1 7 2)).1 7 2).toInt = (s.1 7 2).toInt := u_ne rfl; have f10 : (1 : Int32).toInt = 1 := rfl; have f11 : (899 : Int32).toInt = 899 := rfl; have f12 := j_rd hJ 7 2 rfl; omega)) (fun r13 s14 hs14 => ?_)
        have js14 : JC 190029447067370218436435031366638338768723651150766669824 s0 s14 := j_call js12 hs14.1 rfl
        exact ⟨(j_wf js14 rfl 183 rfl rfl), trivial⟩
      · exact ⟨(j_wf js12 rfl 183 rfl rfl), trivial⟩
  · exact ⟨(j_wf (j_wf hJ rfl 184 rfl rfl) rfl 183 rfl rfl), trivial⟩
theorem h_X7_advance_b0 {s0 : Sg} (n : Nat) : ∀  (s : Sg), JC 190029447067370218436435031366638338768723651150766669824 s0 s → 900 - (s.1 7 2).toInt < (n : Int) → OQ (f_X7_advance_b0 n  s) (fun _ s9 => JC 190029447067370218436435031366638338768723651150766669824 s0 s9 ∧ True) := by
  induction n with
  | zero => intro  s hJ hn; exact False.elim (by have g0 := hn; have g1 := j_rd hJ 7 2 rfl; omega)
  | succ n ih =>
    intro  s hJ hn
    unfold f_X7_advance_b0
    refine oq_if (fun c1 => ?_) (fun c1 => ?_)
    · exact h_X7_advance_b52  _ hJ
    · refine oq_c (inr_of (by have f0 := j_rd hJ 7 2 rfl; have f1 := i_nle c1; have f2 := j_rd hJ 7 1 rfl; omega)) ?_
      refine oq_if (fun c2 => ?_) (fun c2 => ?_)
      · exact ih  _ (j_wr hJ rfl 182 rfl rfl (by have f0 := i_add (s.1 7 2) ((1 : Int32)); have f1 := j_rd hJ 7 2 rfl; have f2 : (1 : Int32).toInt = 1 := rfl; have f3 := i_nle c1; have f4 := j_rd hJ 7 1 rfl; omega)) (by have g0 : ((pI s 7 2 ((s.1 7 2) + 1)).1 7 2).toInt = ((s.1 7 2) + 1).toInt := u_eq; have g1 := i_add (s.1 7 2) ((1 : Int32)); have g2 := j_rd hJ 7 2 rfl; have g3 : (1 : Int32).toInt = 1 := rfl; have g4 := i_nle c1; have g5 := j_rd hJ 7 1 rfl; have g6 := hn; omega)
      · refine oq_if (fun c3 => ?_) (fun c3 => ?_)
        · exact ih  _ (j_wr hJ rfl 182 rfl rfl (by have f0 := i_add (s.1 7 2) ((1 : Int32)); have f1 := j_rd hJ 7 2 rfl; have f2 : (1 : Int32).toInt = 1 := rfl; have f3 := i_nle c1; have f4 := j_rd hJ 7 1 rfl; omega)) (by have g0 : ((pI s 7 2 ((s.1 7 2) + 1)).1 7 2).toInt = ((s.1 7 2) + 1).toInt := u_eq; have g1 := i_add (s.1 7 2) ((1 : Int32)); have g2 := j_rd hJ 7 2 rfl; have g3 : (1 : Int32).toInt = 1 := rfl; have g4 := i_nle c1; have g5 := j_rd hJ 7 1 rfl; have g6 := hn; omega)
        · exact h_X7_advance_b52  _ hJ
theorem h_X7_advance  {s : Sg} (hR : Rg rC s) : OQ (f_X7_advance  s) (fun _ s9 => JC 190029447067370218436435031366638338768723651150766669824 s s9 ∧ True) := by
  have hJ : JC 190029447067370218436435031366638338768723651150766669824 s s := j_refl hR
  unfold f_X7_advance
  exact h_X7_advance_b0 BIG  _ hJ (by have g0 := j_rd hJ 7 2 rfl; have g1 : BIG = 4294967296 := rfl; omega)
theorem h_X7_begin (a1 : Int32) {s : Sg} (hR : Rg rC s) (p_a1 : 0 ≤ a1.toInt ∧ a1.toInt ≤ 900) : OQ (f_X7_begin a1 s) (fun _ s9 => JC 1370051013534104639372362242272376410155152775232140345344 s s9 ∧ True) := by
  have hJ : JC 1370051013534104639372362242272376410155152775232140345344 s s := j_refl hR
  unfold f_X7_begin
  refine oq_n (fun s1 es1 => ?_)
  have js1 : JC 1370051013534104639372362242272376410155152775232140345344 s s1 := by rw [es1]; exact (j_wr hJ rfl 181 rfl rfl (by have f0 := ite_lt ((900 : Int32)) (a1) ((900 : Int32)) (a1); have f1 : (900 : Int32).toInt = 900 := rfl; have f2 := p_a1; have f3 := i_rg a1; omega))
  refine oq_n (fun s2 es2 => ?_)
  have js2 : JC 1370051013534104639372362242272376410155152775232140345344 s s2 := by rw [es2]; exact (j_wf (j_wf (j_wr js1 rfl 182 rfl rfl (by have f0 : (0 : Int32).toInt = 0 := rfl; omega)) rfl 188 rfl rfl) rfl 189 rfl rfl)
  refine oq_b (h_X7_advance  js2.1) (fun u1 s4 hs4 => ?_)
  have js4 : JC 1370051013534104639372362242272376410155152775232140345344 s s4 := j_call js2 hs4.1 rfl
  exact ⟨js4, trivial⟩
theorem h_X11_clearRow_61_b2 {s0 : Sg} (n : Nat) : ∀ (v1 : Int32) (s : Sg), JC 2305843009213693952 s0 s → 0 ≤ v1.toInt ∧ v1.toInt ≤ 8 → 8 - v1.toInt < (n : Int) → OQ (f_X11_clearRow_61_b2 n v1 s) (fun _ s9 => JC 2305843009213693952 s0 s9 ∧ True) := by
  induction n with
  | zero => intro v1 s hJ p_v1 hn; exact False.elim (by have g0 := hn; have g1 := p_v1; omega)
  | succ n ih =>
    intro v1 s hJ p_v1 hn
    unfold f_X11_clearRow_61_b2
    refine oq_if (fun c1 => ?_) (fun c1 => ?_)
    · exact ⟨hJ, trivial⟩
    · refine oq_c (inr_of (by have f0 := p_v1; have f1 := i_rg v1; have f2 := i_nle c1; have f3 : (8 : Int32).toInt = 8 := rfl; omega)) ?_
      exact ih _ _ (j_wf hJ rfl 61 rfl rfl) (by have f0 := i_add (v1) ((1 : Int32)); have f1 := p_v1; have f2 := i_rg v1; have f3 : (1 : Int32).toInt = 1 := rfl; have f4 := i_nle c1; have f5 : (8 : Int32).toInt = 8 := rfl; omega) (by have g0 := i_add (v1) ((1 : Int32)); have g1 := p_v1; have g2 := i_rg v1; have g3 : (1 : Int32).toInt = 1 := rfl; have g4 := i_nle c1; have g5 : (8 : Int32).toInt = 8 := rfl; have g6 := hn; omega)
theorem h_X11_clearRow_61  {s : Sg} (hR : Rg rC s) : OQ (f_X11_clearRow_61  s) (fun _ s9 => JC 2305843009213693952 s s9 ∧ True) := by
  have hJ : JC 2305843009213693952 s s := j_refl hR
  unfold f_X11_clearRow_61
  exact h_X11_clearRow_61_b2 BIG _ _ hJ (by have f0 : (0 : Int32).toInt = 0 := rfl; omega) (by have g0 : (0 : Int32).toInt = 0 := rfl; have g1 : BIG = 4294967296 := rfl; omega)
theorem h_X4_clear_52  {s : Sg} (hR : Rg rC s) : OQ (f_X4_clear_52  s) (fun _ s9 => JC 1639076805144170081052801334187985854572647055964291701221097472 s s9 ∧ True) := by
  have hJ : JC 1639076805144170081052801334187985854572647055964291701221097472 s s := j_refl hR
  unfold f_X4_clear_52
  refine oq_b (h_X11_clearRow_61  hJ.1) (fun u1 s2 hs2 => ?_)
  have js2 : JC 1639076805144170081052801334187985854572647055964291701221097472 s s2 := j_call hJ hs2.1 rfl
  refine oq_n (fun s3 es3 => ?_)
  have js3 : JC 1639076805144170081052801334187985854572647055964291701221097472 s s3 := by rw [es3]; exact (j_wr (j_wr (j_wr js2 rfl 202 rfl rfl (by have f0 : (0 : Int32).toInt = 0 := rfl; omega)) rfl 203 rfl rfl (by have f0 : (0 : Int32).toInt = 0 := rfl; omega)) rfl 204 rfl rfl (by have f0 : (0 : Int32).toInt = 0 := rfl; omega))
  refine oq_n (fun s4 es4 => ?_)
  have js4 : JC 1639076805144170081052801334187985854572647055964291701221097472 s s4 := by rw [es4]; exact (j_wf (j_wr (j_wr js3 rfl 205 rfl rfl (by have f0 : (0 : Int32).toInt = 0 := rfl; omega)) rfl 206 rfl rfl (by have f0 : (0 : Int32).toInt = 0 := rfl; omega)) rfl 207 rfl rfl)
  exact ⟨(j_wr (j_wf js4 rfl 208 rfl rfl) rfl 209 rfl rfl (by have f0 : (0 : Int32).toInt = 0 := rfl; omega)), trivial⟩
theorem h_X11_clearRow_67_b2 {s0 : Sg} (n : Nat) : ∀ (v1 : Int32) (s : Sg), JC 147573952589676412928 s0 s → 0 ≤ v1.toInt ∧ v1.toInt ≤ 8 → 8 - v1.toInt < (n : Int) → OQ (f_X11_clearRow_67_b2 n v1 s) (fun _ s9 => JC 147573952589676412928 s0 s9 ∧ True) := by
  induction n with
  | zero => intro v1 s hJ p_v1 hn; exact False.elim (by have g0 := hn; have g1 := p_v1; omega)
  | succ n ih =>
    intro v1 s hJ p_v1 hn
    unfold f_X11_clearRow_67_b2
    refine oq_if (fun c1 => ?_) (fun c1 => ?_)
    · exact ⟨hJ, trivial⟩
    · refine oq_c (inr_of (by have f0 := p_v1; have f1 := i_rg v1; have f2 := i_nle c1; have f3 : (8 : Int32).toInt = 8 := rfl; omega)) ?_
      exact ih _ _ (j_wf hJ rfl 67 rfl rfl) (by have f0 := i_add (v1) ((1 : Int32)); have f1 := p_v1; have f2 := i_rg v1; have f3 : (1 : Int32).toInt = 1 := rfl; have f4 := i_nle c1; have f5 : (8 : Int32).toInt = 8 := rfl; omega) (by have g0 := i_add (v1) ((1 : Int32)); have g1 := p_v1; have g2 := i_rg v1; have g3 : (1 : Int32).toInt = 1 := rfl; have g4 := i_nle c1; have g5 : (8 : Int32).toInt = 8 := rfl; have g6 := hn; omega)
theorem h_X11_clearRow_67  {s : Sg} (hR : Rg rC s) : OQ (f_X11_clearRow_67  s) (fun _ s9 => JC 147573952589676412928 s s9 ∧ True) := by
  have hJ : JC 147573952589676412928 s s := j_refl hR
  unfold f_X11_clearRow_67
  exact h_X11_clearRow_67_b2 BIG _ _ hJ (by have f0 : (0 : Int32).toInt = 0 := rfl; omega) (by have g0 : (0 : Int32).toInt = 0 := rfl; have g1 : BIG = 4294967296 := rfl; omega)
theorem h_X11_clearRow_68_b2 {s0 : Sg} (n : Nat) : ∀ (v1 : Int32) (s : Sg), JC 295147905179352825856 s0 s → 0 ≤ v1.toInt ∧ v1.toInt ≤ 8 → 8 - v1.toInt < (n : Int) → OQ (f_X11_clearRow_68_b2 n v1 s) (fun _ s9 => JC 295147905179352825856 s0 s9 ∧ True) := by
  induction n with
  | zero => intro v1 s hJ p_v1 hn; exact False.elim (by have g0 := hn; have g1 := p_v1; omega)
  | succ n ih =>
    intro v1 s hJ p_v1 hn
    unfold f_X11_clearRow_68_b2
    refine oq_if (fun c1 => ?_) (fun c1 => ?_)
    · exact ⟨hJ, trivial⟩
    · refine oq_c (inr_of (by have f0 := p_v1; have f1 := i_rg v1; have f2 := i_nle c1; have f3 : (8 : Int32).toInt = 8 := rfl; omega)) ?_
      exact ih _ _ (j_wf hJ rfl 68 rfl rfl) (by have f0 := i_add (v1) ((1 : Int32)); have f1 := p_v1; have f2 := i_rg v1; have f3 : (1 : Int32).toInt = 1 := rfl; have f4 := i_nle c1; have f5 : (8 : Int32).toInt = 8 := rfl; omega) (by have g0 := i_add (v1) ((1 : Int32)); have g1 := p_v1; have g2 := i_rg v1; have g3 : (1 : Int32).toInt = 1 := rfl; have g4 := i_nle c1; have g5 : (8 : Int32).toInt = 8 := rfl; have g6 := hn; omega)
theorem h_X11_clearRow_68  {s : Sg} (hR : Rg rC s) : OQ (f_X11_clearRow_68  s) (fun _ s9 => JC 295147905179352825856 s s9 ∧ True) := by
  have hJ : JC 295147905179352825856 s s := j_refl hR
  unfold f_X11_clearRow_68
  exact h_X11_clearRow_68_b2 BIG _ _ hJ (by have f0 : (0 : Int32).toInt = 0 := rfl; omega) (by have g0 : (0 : Int32).toInt = 0 := rfl; have g1 : BIG = 4294967296 := rfl; omega)
theorem h_X11_clearRow_69_b2 {s0 : Sg} (n : Nat) : ∀ (v1 : Int32) (s : Sg), JC 590295810358705651712 s0 s → 0 ≤ v1.toInt ∧ v1.toInt ≤ 8 → 8 - v1.toInt < (n : Int) → OQ (f_X11_clearRow_69_b2 n v1 s) (fun _ s9 => JC 590295810358705651712 s0 s9 ∧ True) := by
  induction n with
  | zero => intro v1 s hJ p_v1 hn; exact False.elim (by have g0 := hn; have g1 := p_v1; omega)
  | succ n ih =>
    intro v1 s hJ p_v1 hn
    unfold f_X11_clearRow_69_b2
    refine oq_if (fun c1 => ?_) (fun c1 => ?_)
    · exact ⟨hJ, trivial⟩
    · refine oq_c (inr_of (by have f0 := p_v1; have f1 := i_rg v1; have f2 := i_nle c1; have f3 : (8 : Int32).toInt = 8 := rfl; omega)) ?_
      exact ih _ _ (j_wf hJ rfl 69 rfl rfl) (by have f0 := i_add (v1) ((1 : Int32)); have f1 := p_v1; have f2 := i_rg v1; have f3 : (1 : Int32).toInt = 1 := rfl; have f4 := i_nle c1; have f5 : (8 : Int32).toInt = 8 := rfl; omega) (by have g0 := i_add (v1) ((1 : Int32)); have g1 := p_v1; have g2 := i_rg v1; have g3 : (1 : Int32).toInt = 1 := rfl; have g4 := i_nle c1; have g5 : (8 : Int32).toInt = 8 := rfl; have g6 := hn; omega)
theorem h_X11_clearRow_69  {s : Sg} (hR : Rg rC s) : OQ (f_X11_clearRow_69  s) (fun _ s9 => JC 590295810358705651712 s s9 ∧ True) := by
  have hJ : JC 590295810358705651712 s s := j_refl hR
  unfold f_X11_clearRow_69
  exact h_X11_clearRow_69_b2 BIG _ _ hJ (by have f0 : (0 : Int32).toInt = 0 := rfl; omega) (by have g0 : (0 : Int32).toInt = 0 := rfl; have g1 : BIG = 4294967296 := rfl; omega)
theorem h_X11_clearRow_70_b2 {s0 : Sg} (n : Nat) : ∀ (v1 : Int32) (s : Sg), JC 1180591620717411303424 s0 s → 0 ≤ v1.toInt ∧ v1.toInt ≤ 8 → 8 - v1.toInt < (n : Int) → OQ (f_X11_clearRow_70_b2 n v1 s) (fun _ s9 => JC 1180591620717411303424 s0 s9 ∧ True) := by
  induction n with
  | zero => intro v1 s hJ p_v1 hn; exact False.elim (by have g0 := hn; have g1 := p_v1; omega)
  | succ n ih =>
    intro v1 s hJ p_v1 hn
    unfold f_X11_clearRow_70_b2
    refine oq_if (fun c1 => ?_) (fun c1 => ?_)
    · exact ⟨hJ, trivial⟩
    · refine oq_c (inr_of (by have f0 := p_v1; have f1 := i_rg v1; have f2 := i_nle c1; have f3 : (8 : Int32).toInt = 8 := rfl; omega)) ?_
      exact ih _ _ (j_wf hJ rfl 70 rfl rfl) (by have f0 := i_add (v1) ((1 : Int32)); have f1 := p_v1; have f2 := i_rg v1; have f3 : (1 : Int32).toInt = 1 := rfl; have f4 := i_nle c1; have f5 : (8 : Int32).toInt = 8 := rfl; omega) (by have g0 := i_add (v1) ((1 : Int32)); have g1 := p_v1; have g2 := i_rg v1; have g3 : (1 : Int32).toInt = 1 := rfl; have g4 := i_nle c1; have g5 : (8 : Int32).toInt = 8 := rfl; have g6 := hn; omega)
theorem h_X11_clearRow_70  {s : Sg} (hR : Rg rC s) : OQ (f_X11_clearRow_70  s) (fun _ s9 => JC 1180591620717411303424 s s9 ∧ True) := by
  have hJ : JC 1180591620717411303424 s s := j_refl hR
  unfold f_X11_clearRow_70
  exact h_X11_clearRow_70_b2 BIG _ _ hJ (by have f0 : (0 : Int32).toInt = 0 := rfl; omega) (by have g0 : (0 : Int32).toInt = 0 := rfl; have g1 : BIG = 4294967296 := rfl; omega)
theorem h_X11_clearRow_71_b2 {s0 : Sg} (n : Nat) : ∀ (v1 : Int32) (s : Sg), JC 2361183241434822606848 s0 s → 0 ≤ v1.toInt ∧ v1.toInt ≤ 4 → 4 - v1.toInt < (n : Int) → OQ (f_X11_clearRow_71_b2 n v1 s) (fun _ s9 => JC 2361183241434822606848 s0 s9 ∧ True) := by
  induction n with
  | zero => intro v1 s hJ p_v1 hn; exact False.elim (by have g0 := hn; have g1 := p_v1; omega)
  | succ n ih =>
    intro v1 s hJ p_v1 hn
    unfold f_X11_clearRow_71_b2
    refine oq_if (fun c1 => ?_) (fun c1 => ?_)
    · exact ⟨hJ, trivial⟩
    · refine oq_c (inr_of (by have f0 := p_v1; have f1 := i_rg v1; have f2 := i_nle c1; have f3 : (4 : Int32).toInt = 4 := rfl; omega)) ?_
      exact ih _ _ (j_wf hJ rfl 71 rfl rfl) (by have f0 := i_add (v1) ((1 : Int32)); have f1 := p_v1; have f2 := i_rg v1; have f3 : (1 : Int32).toInt = 1 := rfl; have f4 := i_nle c1; have f5 : (4 : Int32).toInt = 4 := rfl; omega) (by have g0 := i_add (v1) ((1 : Int32)); have g1 := p_v1; have g2 := i_rg v1; have g3 : (1 : Int32).toInt = 1 := rfl; have g4 := i_nle c1; have g5 : (4 : Int32).toInt = 4 := rfl; have g6 := hn; omega)
theorem h_X11_clearRow_71  {s : Sg} (hR : Rg rC s) : OQ (f_X11_clearRow_71  s) (fun _ s9 => JC 2361183241434822606848 s s9 ∧ True) := by
  have hJ : JC 2361183241434822606848 s s := j_refl hR
  unfold f_X11_clearRow_71
  exact h_X11_clearRow_71_b2 BIG _ _ hJ (by have f0 : (0 : Int32).toInt = 0 := rfl; omega) (by have g0 : (0 : Int32).toInt = 0 := rfl; have g1 : BIG = 4294967296 := rfl; omega)
theorem h_X2_clear_53  {s : Sg} (hR : Rg rC s) : OQ (f_X2_clear_53  s) (fun _ s9 => JC 4574801537479223541760 s s9 ∧ True) := by
  have hJ : JC 4574801537479223541760 s s := j_refl hR
  unfold f_X2_clear_53
  refine oq_b (h_X11_clearRow_67  hJ.1) (fun u1 s2 hs2 => ?_)
  have js2 : JC 4574801537479223541760 s s2 := j_call hJ hs2.1 rfl
  refine oq_b (h_X11_clearRow_68  js2.1) (fun u2 s4 hs4 => ?_)
  have js4 : JC 4574801537479223541760 s s4 := j_call js2 hs4.1 rfl
  refine oq_b (h_X11_clearRow_69  js4.1) (fun u3 s6 hs6 => ?_)
  have js6 : JC 4574801537479223541760 s s6 := j_call js4 hs6.1 rfl
  refine oq_b (h_X11_clearRow_70  js6.1) (fun u4 s8 hs8 => ?_)
  have js8 : JC 4574801537479223541760 s s8 := j_call js6 hs8.1 rfl
  refine oq_b (h_X11_clearRow_71  js8.1) (fun u5 s10 hs10 => ?_)
  have js10 : JC 4574801537479223541760 s s10 := j_call js8 hs10.1 rfl
  refine oq_n (fun s11 es11 => ?_)
  have js11 : JC 4574801537479223541760 s s11 := by rw [es11]; exact (j_wf (j_wr (j_wf (j_wf js10 rfl 53 rfl rfl) rfl 53 rfl rfl) rfl 53 rfl rfl (by have f0 : (0 : Int32).toInt = 0 := rfl; omega)) rfl 53 rfl rfl)
  refine oq_n (fun s12 es12 => ?_)
  have js12 : JC 4574801537479223541760 s s12 := by rw [es12]; exact (j_wf (j_wf (j_wf js11 rfl 53 rfl rfl) rfl 53 rfl rfl) rfl 53 rfl rfl)
  exact ⟨(j_wf js12 rfl 53 rfl rfl), trivial⟩
theorem h_X5_clear_54  {s : Sg} (hR : Rg rC s) : OQ (f_X5_clear_54  s) (fun _ s9 => JC 2948744166719601227541704775142772104929062671215375115120707371008 s s9 ∧ True) := by
  have hJ : JC 2948744166719601227541704775142772104929062671215375115120707371008 s s := j_refl hR
  unfold f_X5_clear_54
  refine oq_n (fun s1 es1 => ?_)
  have js1 : JC 2948744166719601227541704775142772104929062671215375115120707371008 s s1 := by rw [es1]; exact (j_wf (j_wr (j_wr hJ rfl 218 rfl rfl (by have f0 : (0 : Int32).toInt = 0 := rfl; omega)) rfl 219 rfl rfl (by have f0 : (0 : Int32).toInt = 0 := rfl; omega)) rfl 220 rfl rfl)
  exact ⟨js1, trivial⟩
theorem h_X10_clear_51  {s : Sg} (hR : Rg rC s) : OQ (f_X10_clear_51  s) (fun _ s9 => JC 2950383243524745397622757576476960090783635322846140944301152010240 s s9 ∧ True) := by
  have hJ : JC 2950383243524745397622757576476960090783635322846140944301152010240 s s := j_refl hR
  unfold f_X10_clear_51
  refine oq_b (h_X4_clear_52  hJ.1) (fun u1 s2 hs2 => ?_)
  have js2 : JC 2950383243524745397622757576476960090783635322846140944301152010240 s s2 := j_call hJ hs2.1 rfl
  refine oq_b (h_X2_clear_53  js2.1) (fun u2 s4 hs4 => ?_)
  have js4 : JC 2950383243524745397622757576476960090783635322846140944301152010240 s s4 := j_call js2 hs4.1 rfl
  refine oq_b (h_X5_clear_54  js4.1) (fun u3 s6 hs6 => ?_)
  have js6 : JC 2950383243524745397622757576476960090783635322846140944301152010240 s s6 := j_call js4 hs6.1 rfl
  exact ⟨js6, trivial⟩
theorem h_X4_addName_52_b14 {s0 : Sg} (n : Nat) : ∀ (v1 : Int64) (v3 : Int32) (v4 : Int32) (v5 : Int32) (s : Sg), JC 6427752177035961102167848369364650410088812227332750473953280 s0 s → 99 ≤ v3.toInt ∧ v3.toInt ≤ 112 → 0 ≤ v4.toInt ∧ v4.toInt ≤ 7 → 0 ≤ v5.toInt ∧ v5.toInt ≤ 23 → 0 ≤ (s.1 52 12).toInt ∧ (s.1 52 12).toInt ≤ 23 → 23 - v5.toInt < (n : Int) → OQ (f_X4_addName_52_b14 n v1 v3 v4 v5 s) (fun r9 s9 => JC 6427752177035961102167848369364650410088812227332750473953280 s0 s9 ∧ (0 ≤ r9.toInt ∧ r9.toInt ≤ 1) ∧ (r9 = 0 → True) ∧ (¬ r9 = 0 → True)) := by
  induction n with
  | zero => intro v1 v3 v4 v5 s hJ p_v3 p_v4 p_v5 z_52_12 hn; exact False.elim (by have g0 := hn; have g1 := p_v3; have g2 := p_v4; have g3 := p_v5; have g4 := z_52_12; omega)
  | succ n ih =>
    intro v1 v3 v4 v5 s hJ p_v3 p_v4 p_v5 z_52_12 hn
    unfold f_X4_addName_52_b14
    refine oq_if (fun c1 => ?_) (fun c1 => ?_)
    · refine oq_c (inr_of (by have f0 := z_52_12; have f1 := j_rd hJ 52 12 rfl; have f2 := i_le c1; have f3 := p_v5; have f4 := i_rg v5; omega)) ?_
      refine oq_n (fun s2 es2 => ?_)
      have js2 : JC 6427752177035961102167848369364650410088812227332750473953280 s0 s2 := by rw [es2]; exact (j_wl hJ 55 rfl rfl)
      refine oq_c (inr_of (by have f0 := j_rd js2 52 12 rfl; have f1 : (s2.1 52 12).toInt = (s.1 52 12).toInt := (by rw [es2]; exact rfl); have f2 := z_52_12; have f3 := j_rd hJ 52 12 rfl; have f4 := i_le c1; have f5 := p_v5; have f6 := i_rg v5; omega)) ?_
      refine oq_n (fun s4 es4 => ?_)
      have js4 : JC 6427752177035961102167848369364650410088812227332750473953280 s0 s4 := by rw [es4]; exact (j_wf js2 rfl 56 rfl rfl)
      refine oq_c (inr_of (by have f0 := j_rd js4 52 12 rfl; have f1 : (s4.1 52 12).toInt = (s2.1 52 12).toInt := (by rw [es4]; exact u_nc rfl); have f2 := j_rd js2 52 12 rfl; have f3 : (s2.1 52 12).toInt = (s.1 52 12).toInt := (by rw [es2]; exact rfl); have f4 := z_52_12; have f5 := j_rd hJ 52 12 rfl; have f6 := i_le c1; have f7 := p_v5; have f8 := i_rg v5; omega)) ?_
      refine oq_n (fun s6 es6 => ?_)
      have js6 : JC 6427752177035961102167848369364650410088812227332750473953280 s0 s6 := by rw [es6]; exact (j_wr js4 rfl 57 rfl rfl (by have f0 := p_v4; have f1 := i_rg v4; omega))
      exact ⟨(j_wr js6 rfl 202 rfl rfl (by have f0 := i_add (s6.1 52 12) ((1 : Int32)); have f1 := j_rd js6 52 12 rfl; have f2 : (s6.1 52 12).toInt = (s4.1 52 12).toInt := (by rw [es6]; exact u_nc rfl); have f3 : (1 : Int32).toInt = 1 := rfl; have f4 := j_rd js4 52 12 rfl; have f5 : (s4.1 52 12).toInt = (s2.1 52 12).toInt := (by rw [es4]; exact u_nc rfl); have f6 := j_rd js2 52 12 rfl; have f7 : (s2.1 52 12).toInt = (s.1 52 12).toInt := (by rw [es2]; exact rfl); have f8 := z_52_12; have f9 := j_rd hJ 52 12 rfl; have f10 := i_le c1; have f11 := p_v5; have f12 := i_rg v5; omega)), (by have f0 : (1 : Int32).toInt = 1 := rfl; omega), fun c9 => absurd c9 (by decide), fun _ => trivial⟩
    · refine oq_c (inr_of (by have f0 := p_v5; have f1 := i_rg v5; have f2 := i_nle c1; have f3 := z_52_12; have f4 := j_rd hJ 52 12 rfl; omega)) ?_
      refine oq_if (fun c2 => ?_) (fun c2 => ?_)
      · exact ⟨hJ, (by have f0 : (0 : Int32).toInt = 0 := rfl; omega), fun _ => trivial, fun c9 => absurd rfl c9⟩
      · exact ih _ _ _ _ _ hJ (by have f0 := p_v3; have f1 := i_rg v3; omega) (by have f0 := p_v4; have f1 := i_rg v4; omega) (by have f0 := i_add (v5) ((1 : Int32)); have f1 := p_v5; have f2 := i_rg v5; have f3 : (1 : Int32).toInt = 1 := rfl; have f4 := i_nle c1; have f5 := z_52_12; have f6 := j_rd hJ 52 12 rfl; omega) (by have f0 := z_52_12; have f1 := j_rd hJ 52 12 rfl; have f2 := i_nle c1; have f3 := p_v5; have f4 := i_rg v5; omega) (by have g0 := i_add (v5) ((1 : Int32)); have g1 := p_v3; have g2 := i_rg v3; have g3 := p_v4; have g4 := i_rg v4; have g5 := p_v5; have g6 := i_rg v5; have g7 : (1 : Int32).toInt = 1 := rfl; have g8 := i_nle c1; have g9 := z_52_12; have g10 := j_rd hJ 52 12 rfl; have g11 := hn; omega)
theorem h_X4_addName_52 (a1 : Int64) (a2 : Int32) (a3 : Int32) {s : Sg} (hR : Rg rC s) (p_a2 : 99 ≤ a2.toInt ∧ a2.toInt ≤ 112) (p_a3 : 0 ≤ a3.toInt ∧ a3.toInt ≤ 7) : OQ (f_X4_addName_52 a1 a2 a3 s) (fun r9 s9 => JC 6427752177035961102167848369364650410088812227332750473953280 s s9 ∧ (0 ≤ r9.toInt ∧ r9.toInt ≤ 1) ∧ (r9 = 0 → True) ∧ (¬ r9 = 0 → True)) := by
  have hJ : JC 6427752177035961102167848369364650410088812227332750473953280 s s := j_refl hR
  unfold f_X4_addName_52
  refine oq_if (fun c1 => ?_) (fun c1 => ?_)
  · exact h_X4_addName_52_b14 BIG _ _ _ _ _ hJ (by have f0 := p_a2; have f1 := i_rg a2; omega) (by have f0 := p_a3; have f1 := i_rg a3; omega) (by have f0 : (0 : Int32).toInt = 0 := rfl; omega) (by have f0 := j_rd hJ 52 12 rfl; have f1 := i_lt c1; have f2 : (24 : Int32).toInt = 24 := rfl; omega) (by have g0 := p_a2; have g1 := i_rg a2; have g2 := p_a3; have g3 := i_rg a3; have g4 : (0 : Int32).toInt = 0 := rfl; have g5 : BIG = 4294967296 := rfl; omega)
  · exact ⟨hJ, (by have f0 : (0 : Int32).toInt = 0 := rfl; omega), fun _ => trivial, fun c9 => absurd rfl c9⟩
theorem h_X7_wrong (a1 : Int32) {s : Sg} (hR : Rg rC s) (p_a1 : 2 ≤ a1.toInt ∧ a1.toInt ≤ 7) : OQ (f_X7_wrong a1 s) (fun r9 s9 => JC 1176956575385002643219210516851437453019191645837006471168 s s9 ∧ (0 ≤ r9.toInt ∧ r9.toInt ≤ 0) ∧ (r9 = 0 → True) ∧ (¬ r9 = 0 → True)) := by
  have hJ : JC 1176956575385002643219210516851437453019191645837006471168 s s := j_refl hR
  unfold f_X7_wrong
  refine oq_if (fun c1 => ?_) (fun c1 => ?_)
  · refine oq_n (fun s1 es1 => ?_)
    have js1 : JC 1176956575385002643219210516851437453019191645837006471168 s s1 := by rw [es1]; exact (j_wf (j_wf hJ rfl 188 rfl rfl) rfl 189 rfl rfl)
    exact ⟨js1, (by have f0 : (0 : Int32).toInt = 0 := rfl; omega), fun _ => trivial, fun c9 => absurd rfl c9⟩
  · refine oq_n (fun s2 es2 => ?_)
    have js2 : JC 1176956575385002643219210516851437453019191645837006471168 s s2 := by rw [es2]; exact (j_wf (j_wf hJ rfl 188 rfl rfl) rfl 189 rfl rfl)
    exact ⟨js2, (by have f0 : (0 : Int32).toInt = 0 := rfl; omega), fun _ => trivial, fun c9 => absurd rfl c9⟩
theorem h_X6_takeNew (a1 : Int32) (a2 : Int32) (a3 : Int32) {s : Sg} (hR : Rg rC s) (p_a1 : 99 ≤ a1.toInt ∧ a1.toInt ≤ 112) (p_a2 : 0 ≤ a2.toInt ∧ a2.toInt ≤ 8) (p_a3 : 4 ≤ a3.toInt ∧ a3.toInt ≤ 8) : OQ (f_X6_takeNew a1 a2 a3 s) (fun r9 s9 => JC 6429119163058413475029504014912868485880600142629738247094272 s s9 ∧ (0 ≤ r9.toInt ∧ r9.toInt ≤ 1) ∧ (r9 = 0 → True) ∧ (¬ r9 = 0 → (a2).toInt < (a3).toInt ∧ (a2).toInt ≤ 7)) := by
  have hJ : JC 6429119163058413475029504014912868485880600142629738247094272 s s := j_refl hR
  unfold f_X6_takeNew
  refine oq_if (fun c1 => ?_) (fun c1 => ?_)
  · refine oq_b (h_X7_advance  hJ.1) (fun u2 s2 hs2 => ?_)
    have js2 : JC 6429119163058413475029504014912868485880600142629738247094272 s s2 := j_call hJ hs2.1 rfl
    refine oq_if (fun c3 => ?_) (fun c3 => ?_)
    · refine oq_b (h_X4_addName_52 _ _ _ js2.1 (by have f0 := p_a1; have f1 := i_rg a1; omega) (by have f0 := p_a2; have f1 := i_rg a2; have f2 := i_lt c1; have f3 := p_a3; have f4 := i_rg a3; omega)) (fun r3 s4 hs4 => ?_)
      have js4 : JC 6429119163058413475029504014912868485880600142629738247094272 s s4 := j_call js2 hs4.1 rfl
      refine oq_if (fun c4 => ?_) (fun c4 => ?_)
      · refine oq_b (h_X7_wrong _ js4.1 (by have f0 : (3 : Int32).toInt = 3 := rfl; omega)) (fun r5 s6 hs6 => ?_)
        have js6 : JC 6429119163058413475029504014912868485880600142629738247094272 s s6 := j_call js4 hs6.1 rfl
        refine oq_c (b01_of (by have f0 := hs6.2.1; have f1 := i_rg r5; omega)) ?_
        exact ⟨js6, (by have f0 := hs6.2.1; have f1 := i_rg r5; omega), fun _ => trivial, fun c9 => False.elim (by have f0 := hs6.2.1; have f1 := i_rg r5; have f2 := i_ne c9; have f3 : (0 : Int32).toInt = 0 := rfl; omega)⟩
      · refine oq_b (h_X7_advance  js4.1) (fun u5 s8 hs8 => ?_)
        have js8 : JC 6429119163058413475029504014912868485880600142629738247094272 s s8 := j_call js4 hs8.1 rfl
        exact ⟨js8, (by have f0 : (1 : Int32).toInt = 1 := rfl; omega), fun c9 => absurd c9 (by decide), fun c9 => ⟨(by have f0 := p_a2; have f1 := i_rg a2; have f2 := p_a3; have f3 := i_rg a3; have f4 := i_lt c1; omega), (by have f0 := p_a2; have f1 := i_rg a2; have f2 : (7 : Int32).toInt = 7 := rfl; have f3 := i_lt c1; have f4 := p_a3; have f5 := i_rg a3; omega)⟩⟩
    · refine oq_b (h_X7_wrong _ js2.1 (by have f0 : (2 : Int32).toInt = 2 := rfl; omega)) (fun r9 s10 hs10 => ?_)
      have js10 : JC 6429119163058413475029504014912868485880600142629738247094272 s s10 := j_call js2 hs10.1 rfl
      refine oq_c (b01_of (by have f0 := hs10.2.1; have f1 := i_rg r9; omega)) ?_
      exact ⟨js10, (by have f0 := hs10.2.1; have f1 := i_rg r9; omega), fun _ => trivial, fun c9 => False.elim (by have f0 := hs10.2.1; have f1 := i_rg r9; have f2 := i_ne c9; have f3 : (0 : Int32).toInt = 0 := rfl; omega)⟩
  · refine oq_b (h_X7_wrong _ hJ.1 (by have f0 : (6 : Int32).toInt = 6 := rfl; omega)) (fun r11 s12 hs12 => ?_)
    have js12 : JC 6429119163058413475029504014912868485880600142629738247094272 s s12 := j_call hJ hs12.1 rfl
    refine oq_c (b01_of (by have f0 := hs12.2.1; have f1 := i_rg r11; omega)) ?_
    exact ⟨js12, (by have f0 := hs12.2.1; have f1 := i_rg r11; omega), fun _ => trivial, fun c9 => False.elim (by have f0 := hs12.2.1; have f1 := i_rg r11; have f2 := i_ne c9; have f3 : (0 : Int32).toInt = 0 := rfl; omega)⟩
theorem h_X7_passNumber (a1 : Int32) (a2 : Int32) {s : Sg} (hR : Rg rC s) (p_a1 : 0 ≤ a1.toInt ∧ a1.toInt ≤ 1) (p_a2 : 16 ≤ a2.toInt ∧ a2.toInt ≤ 2147483647) : OQ (f_X7_passNumber a1 a2 s) (fun r9 s9 => JC 1563145451683206635525513967693315367291113904627274219520 s s9 ∧ (0 ≤ r9.toInt ∧ r9.toInt ≤ 1) ∧ (r9 = 0 → True) ∧ (¬ r9 = 0 → 0 ≤ (s9.1 7 7).toInt)) := by
  have hJ : JC 1563145451683206635525513967693315367291113904627274219520 s s := j_refl hR
  unfold f_X7_passNumber
  refine oq_if (fun c1 => ?_) (fun c1 => ?_)
  · refine oq_b (h_X11_within _ _ _ hJ.1 (by have f0 := p_a1; have f1 := i_rg a1; omega)) (fun r1 s2 hs2 => ?_)
    have js2 : JC 1563145451683206635525513967693315367291113904627274219520 s s2 := j_call hJ hs2.1 rfl
    refine oq_if (fun c2 => ?_) (fun c2 => ?_)
    · refine oq_b (h_X7_wrong _ js2.1 (by have f0 : (4 : Int32).toInt = 4 := rfl; omega)) (fun r3 s4 hs4 => ?_)
      have js4 : JC 1563145451683206635525513967693315367291113904627274219520 s s4 := j_call js2 hs4.1 rfl
      refine oq_c (b01_of (by have f0 := hs4.2.1; have f1 := i_rg r3; omega)) ?_
      exact ⟨js4, (by have f0 := hs4.2.1; have f1 := i_rg r3; omega), fun _ => trivial, fun c9 => False.elim (by have f0 := hs4.2.1; have f1 := i_rg r3; have f2 := i_ne c9; have f3 : (0 : Int32).toInt = 0 := rfl; omega)⟩
    · refine oq_b (h_X7_advance  (j_wf js2 rfl 187 rfl rfl).1) (fun u3 s6 hs6 => ?_)
      have js6 : JC 1563145451683206635525513967693315367291113904627274219520 s s6 := j_call (j_wf js2 rfl 187 rfl rfl) hs6.1 rfl
      exact ⟨js6, (by have f0 : (1 : Int32).toInt = 1 := rfl; omega), fun c9 => absurd c9 (by decide), fun c9 => (by have f0 : (0 : Int32).toInt = 0 := rfl; have f1 : (s6.1 7 7).toInt = ((pI s2 7 7 (s2.1 7 5)).1 7 7).toInt := j_fr hs6.1 7 7 187 rfl rfl; have f2 := i_rg (s6.1 7 7); have f3 : ((pI s2 7 7 (s2.1 7 5)).1 7 7).toInt = (s2.1 7 5).toInt := u_eq; have f4 := i_rg ((pI s2 7 7 (s2.1 7 5)).1 7 7); have f5 : (s2.1 7 5).toInt = (s.1 7 5).toInt := j_fr hs2.1 7 5 185 rfl rfl; have f6 := i_rg (s2.1 7 5); have f7 := i_rg (s.1 7 5); have f8 := (hs2.2.2.2 c2).1; have f9 := (hs2.2.2.2 c2).2.1; have f10 := (hs2.2.2.2 c2).2.2.1; have f11 := (hs2.2.2.2 c2).2.2.2; have f12 := p_a1; have f13 := i_rg a1; have f14 := p_a2; have f15 := i_rg a2; omega)⟩
  · refine oq_b (h_X7_wrong _ hJ.1 (by have f0 : (2 : Int32).toInt = 2 := rfl; omega)) (fun r7 s8 hs8 => ?_)
    have js8 : JC 1563145451683206635525513967693315367291113904627274219520 s s8 := j_call hJ hs8.1 rfl
    refine oq_c (b01_of (by have f0 := hs8.2.1; have f1 := i_rg r7; omega)) ?_
    exact ⟨js8, (by have f0 := hs8.2.1; have f1 := i_rg r7; omega), fun _ => trivial, fun c9 => False.elim (by have f0 := hs8.2.1; have f1 := i_rg r7; have f2 := i_ne c9; have f3 : (0 : Int32).toInt = 0 := rfl; omega)⟩
theorem h_X6_takeGrains_67 (a1 : Int32) (a3 : Int32) {s : Sg} (hR : Rg rC s) (p_a1 : 101 ≤ a1.toInt ∧ a1.toInt ≤ 101) (p_a3 : 0 ≤ a3.toInt ∧ a3.toInt ≤ 7) (z_52_13 : 1 ≤ (s.1 52 13).toInt ∧ (s.1 52 13).toInt ≤ 8) : OQ (f_X6_takeGrains_67 a1 a3 s) (fun r9 s9 => JC 1563145451683206635525513967693315367438687857216950632448 s s9 ∧ (0 ≤ r9.toInt ∧ r9.toInt ≤ 1) ∧ (r9 = 0 → 1 ≤ (s.1 52 13).toInt) ∧ (¬ r9 = 0 → 1 ≤ (s.1 52 13).toInt)) := by
  have hJ : JC 1563145451683206635525513967693315367438687857216950632448 s s := j_refl hR
  unfold f_X6_takeGrains_67
  refine oq_if (fun c1 => ?_) (fun c1 => ?_)
  · refine oq_b (h_X7_advance  hJ.1) (fun u2 s2 hs2 => ?_)
    have js2 : JC 1563145451683206635525513967693315367438687857216950632448 s s2 := j_call hJ hs2.1 rfl
    refine oq_b (h_X7_passNumber _ _ js2.1 (by have f0 : (0 : Int32).toInt = 0 := rfl; omega) (by have f0 : (999 : Int32).toInt = 999 := rfl; omega)) (fun r3 s4 hs4 => ?_)
    have js4 : JC 1563145451683206635525513967693315367438687857216950632448 s s4 := j_call js2 hs4.1 rfl
    refine oq_if (fun c3 => ?_) (fun c3 => ?_)
    · exact ⟨js4, (by have f0 : (0 : Int32).toInt = 0 := rfl; omega), fun c9 => (by have f0 : (1 : Int32).toInt = 1 := rfl; have f1 := z_52_13; have f2 := j_rd hJ 52 13 rfl; omega), fun c9 => absurd rfl c9⟩
    · refine oq_c (inr_of (by have f0 := p_a3; have f1 := i_rg a3; omega)) ?_
      refine oq_n (fun s6 es6 => ?_)
      have js6 : JC 1563145451683206635525513967693315367438687857216950632448 s s6 := by rw [es6]; exact (j_wf js4 rfl 67 rfl rfl)
      exact ⟨js6, (by have f0 : (1 : Int32).toInt = 1 := rfl; omega), fun c9 => absurd c9 (by decide), fun c9 => (by have f0 : (1 : Int32).toInt = 1 := rfl; have f1 := z_52_13; have f2 := j_rd hJ 52 13 rfl; omega)⟩
  · exact ⟨hJ, (by have f0 : (1 : Int32).toInt = 1 := rfl; omega), fun c9 => absurd c9 (by decide), fun c9 => (by have f0 : (1 : Int32).toInt = 1 := rfl; have f1 := z_52_13; have f2 := j_rd hJ 52 13 rfl; omega)⟩
theorem h_X6_takeGrains_68 (a1 : Int32) (a3 : Int32) {s : Sg} (hR : Rg rC s) (p_a1 : 102 ≤ a1.toInt ∧ a1.toInt ≤ 102) (p_a3 : 0 ≤ a3.toInt ∧ a3.toInt ≤ 7) (z_52_13 : 1 ≤ (s.1 52 13).toInt ∧ (s.1 52 13).toInt ≤ 8) : OQ (f_X6_takeGrains_68 a1 a3 s) (fun r9 s9 => JC 1563145451683206635525513967693315367586261809806627045376 s s9 ∧ (0 ≤ r9.toInt ∧ r9.toInt ≤ 1) ∧ (r9 = 0 → 1 ≤ (s.1 52 13).toInt) ∧ (¬ r9 = 0 → 1 ≤ (s.1 52 13).toInt)) := by
  have hJ : JC 1563145451683206635525513967693315367586261809806627045376 s s := j_refl hR
  unfold f_X6_takeGrains_68
  refine oq_if (fun c1 => ?_) (fun c1 => ?_)
  · refine oq_b (h_X7_advance  hJ.1) (fun u2 s2 hs2 => ?_)
    have js2 : JC 1563145451683206635525513967693315367586261809806627045376 s s2 := j_call hJ hs2.1 rfl
    refine oq_b (h_X7_passNumber _ _ js2.1 (by have f0 : (0 : Int32).toInt = 0 := rfl; omega) (by have f0 : (999 : Int32).toInt = 999 := rfl; omega)) (fun r3 s4 hs4 => ?_)
    have js4 : JC 1563145451683206635525513967693315367586261809806627045376 s s4 := j_call js2 hs4.1 rfl
    refine oq_if (fun c3 => ?_) (fun c3 => ?_)
    · exact ⟨js4, (by have f0 : (0 : Int32).toInt = 0 := rfl; omega), fun c9 => (by have f0 : (1 : Int32).toInt = 1 := rfl; have f1 := z_52_13; have f2 := j_rd hJ 52 13 rfl; omega), fun c9 => absurd rfl c9⟩
    · refine oq_c (inr_of (by have f0 := p_a3; have f1 := i_rg a3; omega)) ?_
      refine oq_n (fun s6 es6 => ?_)
      have js6 : JC 1563145451683206635525513967693315367586261809806627045376 s s6 := by rw [es6]; exact (j_wf js4 rfl 68 rfl rfl)
      exact ⟨js6, (by have f0 : (1 : Int32).toInt = 1 := rfl; omega), fun c9 => absurd c9 (by decide), fun c9 => (by have f0 : (1 : Int32).toInt = 1 := rfl; have f1 := z_52_13; have f2 := j_rd hJ 52 13 rfl; omega)⟩
  · exact ⟨hJ, (by have f0 : (1 : Int32).toInt = 1 := rfl; omega), fun c9 => absurd c9 (by decide), fun c9 => (by have f0 : (1 : Int32).toInt = 1 := rfl; have f1 := z_52_13; have f2 := j_rd hJ 52 13 rfl; omega)⟩
theorem h_X7_pass (a1 : Int32) {s : Sg} (hR : Rg rC s) (p_a1 : 59 ≤ a1.toInt ∧ a1.toInt ≤ 167) : OQ (f_X7_pass a1 s) (fun r9 s9 => JC 1366986022452372861655645548218075791787915296987773140992 s s9 ∧ (0 ≤ r9.toInt ∧ r9.toInt ≤ 1) ∧ (r9 = 0 → True) ∧ (¬ r9 = 0 → True)) := by
  have hJ : JC 1366986022452372861655645548218075791787915296987773140992 s s := j_refl hR
  unfold f_X7_pass
  refine oq_if (fun c1 => ?_) (fun c1 => ?_)
  · refine oq_b (h_X7_advance  hJ.1) (fun u2 s2 hs2 => ?_)
    have js2 : JC 1366986022452372861655645548218075791787915296987773140992 s s2 := j_call hJ hs2.1 rfl
    exact ⟨js2, (by have f0 : (1 : Int32).toInt = 1 := rfl; omega), fun c9 => absurd c9 (by decide), fun _ => trivial⟩
  · refine oq_b (h_X7_wrong _ hJ.1 (by have f0 : (2 : Int32).toInt = 2 := rfl; omega)) (fun r3 s4 hs4 => ?_)
    have js4 : JC 1366986022452372861655645548218075791787915296987773140992 s s4 := j_call hJ hs4.1 rfl
    refine oq_c (b01_of (by have f0 := hs4.2.1; have f1 := i_rg r3; omega)) ?_
    exact ⟨js4, (by have f0 := hs4.2.1; have f1 := i_rg r3; omega), fun _ => trivial, fun c9 => False.elim (by have f0 := hs4.2.1; have f1 := i_rg r3; have f2 := i_ne c9; have f3 : (0 : Int32).toInt = 0 := rfl; omega)⟩
theorem h_X6_takeHouse_b64 {s0 : Sg} (v1 : Int32) (t0 : Int32) (s : Sg) (hJ : JC 224972889341710321782510218441730457668476153217554972378398720 s0 s) (p_v1 : 0 ≤ v1.toInt ∧ v1.toInt ≤ 7) (p_t0 : 0 ≤ t0.toInt ∧ t0.toInt ≤ 1) (z_52_13 : 1 ≤ (s.1 52 13).toInt ∧ (s.1 52 13).toInt ≤ 8) : OQ (f_X6_takeHouse_b64 v1 t0 s) (fun r9 s9 => JC 224972889341710321782510218441730457668476153217554972378398720 s0 s9 ∧ (0 ≤ r9.toInt ∧ r9.toInt ≤ 1) ∧ (r9 = 0 → True) ∧ (¬ r9 = 0 → True)) := by
  unfold f_X6_takeHouse_b64
  refine oq_b (h_X6_takeGrains_67 _ _ hJ.1 (by have f0 : (101 : Int32).toInt = 101 := rfl; omega) (by have f0 := p_v1; have f1 := i_rg v1; omega) (by have f0 := z_52_13; have f1 := j_rd hJ 52 13 rfl; omega)) (fun r3 s4 hs4 => ?_)
  have js4 : JC 224972889341710321782510218441730457668476153217554972378398720 s0 s4 := j_call hJ hs4.1 rfl
  refine oq_if (fun c1 => ?_) (fun c1 => ?_)
  · exact ⟨js4, (by have f0 : (0 : Int32).toInt = 0 := rfl; omega), fun _ => trivial, fun c9 => absurd rfl c9⟩
  · refine oq_b (h_X6_takeGrains_68 _ _ js4.1 (by have f0 : (102 : Int32).toInt = 102 := rfl; omega) (by have f0 := p_v1; have f1 := i_rg v1; omega) (by have f0 := j_rd js4 52 13 rfl; have f1 : (s4.1 52 13).toInt = (s.1 52 13).toInt := j_fr hs4.1 52 13 203 rfl rfl; have f2 := z_52_13; have f3 := j_rd hJ 52 13 rfl; have f4 := (hs4.2.2.2 c1); have f5 : (1 : Int32).toInt = 1 := rfl; omega)) (fun r5 s6 hs6 => ?_)
    have js6 : JC 224972889341710321782510218441730457668476153217554972378398720 s0 s6 := j_call js4 hs6.1 rfl
    refine oq_if (fun c2 => ?_) (fun c2 => ?_)
    · exact ⟨js6, (by have f0 : (0 : Int32).toInt = 0 := rfl; omega), fun _ => trivial, fun c9 => absurd rfl c9⟩
    · refine oq_if (fun c3 => ?_) (fun c3 => ?_)
      · refine oq_if (fun c4 => ?_) (fun c4 => ?_)
        · refine oq_n (fun s7 es7 => ?_)
          have js7 : JC 224972889341710321782510218441730457668476153217554972378398720 s0 s7 := by rw [es7]; exact (j_wf js6 rfl 207 rfl rfl)
          refine oq_b (h_X7_advance  js7.1) (fun u5 s9 hs9 => ?_)
          have js9 : JC 224972889341710321782510218441730457668476153217554972378398720 s0 s9 := j_call js7 hs9.1 rfl
          refine oq_b (h_X7_pass _ js9.1 (by have f0 : (59 : Int32).toInt = 59 := rfl; omega)) (fun r10 s11 hs11 => ?_)
          have js11 : JC 224972889341710321782510218441730457668476153217554972378398720 s0 s11 := j_call js9 hs11.1 rfl
          refine oq_c (b01_of (by have f0 := hs11.2.1; have f1 := i_rg r10; omega)) ?_
          exact ⟨js11, (by have f0 := hs11.2.1; have f1 := i_rg r10; omega), fun _ => trivial, fun _ => trivial⟩
        · refine oq_b (h_X7_wrong _ js6.1 (by have f0 : (5 : Int32).toInt = 5 := rfl; omega)) (fun r12 s13 hs13 => ?_)
          have js13 : JC 224972889341710321782510218441730457668476153217554972378398720 s0 s13 := j_call js6 hs13.1 rfl
          refine oq_c (b01_of (by have f0 := hs13.2.1; have f1 := i_rg r12; omega)) ?_
          exact ⟨js13, (by have f0 := hs13.2.1; have f1 := i_rg r12; omega), fun _ => trivial, fun c9 => False.elim (by have f0 := hs13.2.1; have f1 := i_rg r12; have f2 := i_ne c9; have f3 : (0 : Int32).toInt = 0 := rfl; omega)⟩
      · refine oq_b (h_X7_pass _ js6.1 (by have f0 : (59 : Int32).toInt = 59 := rfl; omega)) (fun r14 s15 hs15 => ?_)
        have js15 : JC 224972889341710321782510218441730457668476153217554972378398720 s0 s15 := j_call js6 hs15.1 rfl
        refine oq_c (b01_of (by have f0 := hs15.2.1; have f1 := i_rg r14; omega)) ?_
        exact ⟨js15, (by have f0 := hs15.2.1; have f1 := i_rg r14; omega), fun _ => trivial, fun _ => trivial⟩
theorem h_X6_takeHouse_b59 {s0 : Sg} (v1 : Int32) (s : Sg) (hJ : JC 224972889341710321782510218441730457668476153217554972378398720 s0 s) (p_v1 : 0 ≤ v1.toInt ∧ v1.toInt ≤ 7) (z_52_13 : 1 ≤ (s.1 52 13).toInt ∧ (s.1 52 13).toInt ≤ 8) : OQ (f_X6_takeHouse_b59 v1 s) (fun r9 s9 => JC 224972889341710321782510218441730457668476153217554972378398720 s0 s9 ∧ (0 ≤ r9.toInt ∧ r9.toInt ≤ 1) ∧ (r9 = 0 → True) ∧ (¬ r9 = 0 → True)) := by
  unfold f_X6_takeHouse_b59
  exact h_X6_takeHouse_b64 _ _ _ hJ (by have f0 := p_v1; have f1 := i_rg v1; omega) (by have f0 : (1 : Int32).toInt = 1 := rfl; omega) (by have f0 := z_52_13; have f1 := j_rd hJ 52 13 rfl; omega)
theorem h_X6_takeHouse  {s : Sg} (hR : Rg rC s) : OQ (f_X6_takeHouse  s) (fun r9 s9 => JC 224972889341710321782510218441730457668476153217554972378398720 s s9 ∧ (0 ≤ r9.toInt ∧ r9.toInt ≤ 1) ∧ (r9 = 0 → True) ∧ (¬ r9 = 0 → True)) := by
  have hJ : JC 224972889341710321782510218441730457668476153217554972378398720 s s := j_refl hR
  unfold f_X6_takeHouse
  refine oq_b (h_X6_takeNew _ _ _ hJ.1 (by have f0 : (100 : Int32).toInt = 100 := rfl; omega) (by have f0 := j_rd hJ 52 13 rfl; omega) (by have f0 : (8 : Int32).toInt = 8 := rfl; omega)) (fun r1 s2 hs2 => ?_)
  have js2 : JC 224972889341710321782510218441730457668476153217554972378398720 s s2 := j_call hJ hs2.1 rfl
  refine oq_if (fun c1 => ?_) (fun c1 => ?_)
  · exact ⟨js2, (by have f0 : (0 : Int32).toInt = 0 := rfl; omega), fun _ => trivial, fun c9 => absurd rfl c9⟩
  · refine oq_if (fun c2 => ?_) (fun c2 => ?_)
    · exact h_X6_takeHouse_b59 _ _ (j_wr js2 rfl 203 rfl rfl (by have f0 := i_add (s2.1 52 13) ((1 : Int32)); have f1 := j_rd js2 52 13 rfl; have f2 : (s2.1 52 13).toInt = (s.1 52 13).toInt := j_fr hs2.1 52 13 203 rfl rfl; have f3 : (1 : Int32).toInt = 1 := rfl; have f4 := j_rd hJ 52 13 rfl; have f5 := (hs2.2.2.2 c1).1; have f6 := (hs2.2.2.2 c1).2; have f7 : (8 : Int32).toInt = 8 := rfl; have f8 : (7 : Int32).toInt = 7 := rfl; omega)) (by have f0 := j_rd hJ 52 13 rfl; have f1 := (hs2.2.2.2 c1).1; have f2 := (hs2.2.2.2 c1).2; have f3 : (8 : Int32).toInt = 8 := rfl; have f4 : (7 : Int32).toInt = 7 := rfl; omega) (by have f0 : ((pI s2 52 13 ((s2.1 52 13) + 1)).1 52 13).toInt = ((s2.1 52 13) + 1).toInt := u_eq; have f1 := i_add (s2.1 52 13) ((1 : Int32)); have f2 := j_rd js2 52 13 rfl; have f3 : (s2.1 52 13).toInt = (s.1 52 13).toInt := j_fr hs2.1 52 13 203 rfl rfl; have f4 : (1 : Int32).toInt = 1 := rfl; have f5 := j_rd hJ 52 13 rfl; have f6 := (hs2.2.2.2 c1).1; have f7 := (hs2.2.2.2 c1).2; have f8 : (8 : Int32).toInt = 8 := rfl; have f9 : (7 : Int32).toInt = 7 := rfl; omega)
    · refine oq_if (fun c3 => ?_) (fun c3 => ?_)
      · exact h_X6_takeHouse_b59 _ _ (j_wr js2 rfl 203 rfl rfl (by have f0 := i_add (s2.1 52 13) ((1 : Int32)); have f1 := j_rd js2 52 13 rfl; have f2 : (s2.1 52 13).toInt = (s.1 52 13).toInt := j_fr hs2.1 52 13 203 rfl rfl; have f3 : (1 : Int32).toInt = 1 := rfl; have f4 := j_rd hJ 52 13 rfl; have f5 := (hs2.2.2.2 c1).1; have f6 := (hs2.2.2.2 c1).2; have f7 : (8 : Int32).toInt = 8 := rfl; have f8 : (7 : Int32).toInt = 7 := rfl; omega)) (by have f0 := j_rd hJ 52 13 rfl; have f1 := (hs2.2.2.2 c1).1; have f2 := (hs2.2.2.2 c1).2; have f3 : (8 : Int32).toInt = 8 := rfl; have f4 : (7 : Int32).toInt = 7 := rfl; omega) (by have f0 : ((pI s2 52 13 ((s2.1 52 13) + 1)).1 52 13).toInt = ((s2.1 52 13) + 1).toInt := u_eq; have f1 := i_add (s2.1 52 13) ((1 : Int32)); have f2 := j_rd js2 52 13 rfl; have f3 : (s2.1 52 13).toInt = (s.1 52 13).toInt := j_fr hs2.1 52 13 203 rfl rfl; have f4 : (1 : Int32).toInt = 1 := rfl; have f5 := j_rd hJ 52 13 rfl; have f6 := (hs2.2.2.2 c1).1; have f7 := (hs2.2.2.2 c1).2; have f8 : (8 : Int32).toInt = 8 := rfl; have f9 : (7 : Int32).toInt = 7 := rfl; omega)
      · exact h_X6_takeHouse_b64 _ _ _ (j_wr js2 rfl 203 rfl rfl (by have f0 := i_add (s2.1 52 13) ((1 : Int32)); have f1 := j_rd js2 52 13 rfl; have f2 : (s2.1 52 13).toInt = (s.1 52 13).toInt := j_fr hs2.1 52 13 203 rfl rfl; have f3 : (1 : Int32).toInt = 1 := rfl; have f4 := j_rd hJ 52 13 rfl; have f5 := (hs2.2.2.2 c1).1; have f6 := (hs2.2.2.2 c1).2; have f7 : (8 : Int32).toInt = 8 := rfl; have f8 : (7 : Int32).toInt = 7 := rfl; omega)) (by have f0 := j_rd hJ 52 13 rfl; have f1 := (hs2.2.2.2 c1).1; have f2 := (hs2.2.2.2 c1).2; have f3 : (8 : Int32).toInt = 8 := rfl; have f4 : (7 : Int32).toInt = 7 := rfl; omega) (by have f0 : (0 : Int32).toInt = 0 := rfl; omega) (by have f0 : ((pI s2 52 13 ((s2.1 52 13) + 1)).1 52 13).toInt = ((s2.1 52 13) + 1).toInt := u_eq; have f1 := i_add (s2.1 52 13) ((1 : Int32)); have f2 := j_rd js2 52 13 rfl; have f3 : (s2.1 52 13).toInt = (s.1 52 13).toInt := j_fr hs2.1 52 13 203 rfl rfl; have f4 : (1 : Int32).toInt = 1 := rfl; have f5 := j_rd hJ 52 13 rfl; have f6 := (hs2.2.2.2 c1).1; have f7 := (hs2.2.2.2 c1).2; have f8 : (8 : Int32).toInt = 8 := rfl; have f9 : (7 : Int32).toInt = 7 := rfl; omega)
theorem h_X6_takeCounts_b35 {s0 : Sg}  (s : Sg) (hJ : JC 822753645646625473450346246924223470567159720732086919447445760 s0 s) : OQ (f_X6_takeCounts_b35  s) (fun r9 s9 => JC 822753645646625473450346246924223470567159720732086919447445760 s0 s9 ∧ (0 ≤ r9.toInt ∧ r9.toInt ≤ 1) ∧ (r9 = 0 → True) ∧ (¬ r9 = 0 → True)) := by
  unfold f_X6_takeCounts_b35
  refine oq_b (h_X7_pass _ (j_wr (j_wr hJ rfl 8 rfl rfl (by have f0 : (1 : Int32).toInt = 1 := rfl; omega)) rfl 209 rfl rfl (by have f0 : (1 : Int32).toInt = 1 := rfl; omega)).1 (by have f0 : (118 : Int32).toInt = 118 := rfl; omega)) (fun r3 s4 hs4 => ?_)
  have js4 : JC 822753645646625473450346246924223470567159720732086919447445760 s0 s4 := j_call (j_wr (j_wr hJ rfl 8 rfl rfl (by have f0 : (1 : Int32).toInt = 1 := rfl; omega)) rfl 209 rfl rfl (by have f0 : (1 : Int32).toInt = 1 := rfl; omega)) hs4.1 rfl
  refine oq_if (fun c1 => ?_) (fun c1 => ?_)
  · exact ⟨js4, (by have f0 : (0 : Int32).toInt = 0 := rfl; omega), fun _ => trivial, fun c9 => absurd rfl c9⟩
  · refine oq_b (h_X7_pass _ js4.1 (by have f0 : (59 : Int32).toInt = 59 := rfl; omega)) (fun r5 s6 hs6 => ?_)
    have js6 : JC 822753645646625473450346246924223470567159720732086919447445760 s0 s6 := j_call js4 hs6.1 rfl
    refine oq_if (fun c2 => ?_) (fun c2 => ?_)
    · exact ⟨js6, (by have f0 : (0 : Int32).toInt = 0 := rfl; omega), fun _ => trivial, fun c9 => absurd rfl c9⟩
    · exact ⟨js6, (by have f0 : (1 : Int32).toInt = 1 := rfl; omega), fun c9 => absurd c9 (by decide), fun _ => trivial⟩
theorem h_X6_takeCounts  {s : Sg} (hR : Rg rC s) : OQ (f_X6_takeCounts  s) (fun r9 s9 => JC 822753645646625473450346246924223470567159720732086919447445760 s s9 ∧ (0 ≤ r9.toInt ∧ r9.toInt ≤ 1) ∧ (r9 = 0 → True) ∧ (¬ r9 = 0 → True)) := by
  have hJ : JC 822753645646625473450346246924223470567159720732086919447445760 s s := j_refl hR
  unfold f_X6_takeCounts
  refine oq_b (h_X7_advance  hJ.1) (fun u1 s2 hs2 => ?_)
  have js2 : JC 822753645646625473450346246924223470567159720732086919447445760 s s2 := j_call hJ hs2.1 rfl
  refine oq_if (fun c2 => ?_) (fun c2 => ?_)
  · refine oq_if (fun c3 => ?_) (fun c3 => ?_)
    · exact h_X6_takeCounts_b35  _ js2
    · refine oq_b (h_X7_wrong _ js2.1 (by have f0 : (5 : Int32).toInt = 5 := rfl; omega)) (fun r7 s8 hs8 => ?_)
      have js8 : JC 822753645646625473450346246924223470567159720732086919447445760 s s8 := j_call js2 hs8.1 rfl
      refine oq_c (b01_of (by have f0 := hs8.2.1; have f1 := i_rg r7; omega)) ?_
      exact ⟨js8, (by have f0 := hs8.2.1; have f1 := i_rg r7; omega), fun _ => trivial, fun c9 => False.elim (by have f0 := hs8.2.1; have f1 := i_rg r7; have f2 := i_ne c9; have f3 : (0 : Int32).toInt = 0 := rfl; omega)⟩
  · exact h_X6_takeCounts_b35  _ js2
theorem h_X4_numberOf_52_b3 {s0 : Sg} (n : Nat) : ∀ (v1 : Int64) (v3 : Int32) (v4 : Int32) (s : Sg), JC 0 s0 s → 100 ≤ v3.toInt ∧ v3.toInt ≤ 100 → 0 ≤ v4.toInt ∧ v4.toInt ≤ 24 → 24 - v4.toInt < (n : Int) → OQ (f_X4_numberOf_52_b3 n v1 v3 v4 s) (fun r9 s9 => JC 0 s0 s9 ∧ ((-1) ≤ r9.toInt ∧ r9.toInt ≤ 7) ∧ (r9 = 0 → True) ∧ (¬ r9 = 0 → True)) := by
  induction n with
  | zero => intro v1 v3 v4 s hJ p_v3 p_v4 hn; exact False.elim (by have g0 := hn; have g1 := p_v3; have g2 := p_v4; omega)
  | succ n ih =>
    intro v1 v3 v4 s hJ p_v3 p_v4 hn
    unfold f_X4_numberOf_52_b3
    refine oq_if (fun c1 => ?_) (fun c1 => ?_)
    · exact ⟨hJ, (by have f0 : ((-1) : Int32).toInt = (-1) := rfl; omega), fun c9 => absurd c9 (by decide), fun _ => trivial⟩
    · refine oq_c (inr_of (by have f0 := p_v4; have f1 := i_rg v4; have f2 := i_nle c1; have f3 := j_rd hJ 52 12 rfl; omega)) ?_
      refine oq_if (fun c2 => ?_) (fun c2 => ?_)
      · refine oq_if (fun c3 => ?_) (fun c3 => ?_)
        · exact ⟨hJ, (by have f0 := j_rd hJ 57 v4.toNatClampNeg rfl; omega), fun _ => trivial, fun _ => trivial⟩
        · exact ih _ _ _ _ hJ (by have f0 := p_v3; have f1 := i_rg v3; have f2 := i_ne c3; have f3 := i_rg (s.1 56 v4.toNatClampNeg); omega) (by have f0 := i_add (v4) ((1 : Int32)); have f1 := p_v4; have f2 := i_rg v4; have f3 : (1 : Int32).toInt = 1 := rfl; have f4 := i_nle c1; have f5 := j_rd hJ 52 12 rfl; omega) (by have g0 := i_add (v4) ((1 : Int32)); have g1 := p_v3; have g2 := i_rg v3; have g3 := p_v4; have g4 := i_rg v4; have g5 : (1 : Int32).toInt = 1 := rfl; have g6 := i_nle c1; have g7 := i_ne c3; have g8 := j_rd hJ 52 12 rfl; have g9 := i_rg (s.1 56 v4.toNatClampNeg); have g10 := hn; omega)
      · exact ih _ _ _ _ hJ (by have f0 := p_v3; have f1 := i_rg v3; omega) (by have f0 := i_add (v4) ((1 : Int32)); have f1 := p_v4; have f2 := i_rg v4; have f3 : (1 : Int32).toInt = 1 := rfl; have f4 := i_nle c1; have f5 := j_rd hJ 52 12 rfl; omega) (by have g0 := i_add (v4) ((1 : Int32)); have g1 := p_v3; have g2 := i_rg v3; have g3 := p_v4; have g4 := i_rg v4; have g5 : (1 : Int32).toInt = 1 := rfl; have g6 := i_nle c1; have g7 := j_rd hJ 52 12 rfl; have g8 := hn; omega)
theorem h_X4_numberOf_52 (a1 : Int64) (a2 : Int32) {s : Sg} (hR : Rg rC s) (p_a2 : 100 ≤ a2.toInt ∧ a2.toInt ≤ 100) : OQ (f_X4_numberOf_52 a1 a2 s) (fun r9 s9 => JC 0 s s9 ∧ ((-1) ≤ r9.toInt ∧ r9.toInt ≤ 7) ∧ (r9 = 0 → True) ∧ (¬ r9 = 0 → True)) := by
  have hJ : JC 0 s s := j_refl hR
  unfold f_X4_numberOf_52
  exact h_X4_numberOf_52_b3 BIG _ _ _ _ hJ (by have f0 := p_a2; have f1 := i_rg a2; omega) (by have f0 : (0 : Int32).toInt = 0 := rfl; omega) (by have g0 := p_a2; have g1 := i_rg a2; have g2 : (0 : Int32).toInt = 0 := rfl; have g3 : BIG = 4294967296 := rfl; omega)
theorem h_X7_findName_52 (a2 : Int32) {s : Sg} (hR : Rg rC s) (p_a2 : 100 ≤ a2.toInt ∧ a2.toInt ≤ 100) : OQ (f_X7_findName_52 a2 s) (fun r9 s9 => JC 1373116004615836417089078936326677028522390253476507549696 s s9 ∧ (0 ≤ r9.toInt ∧ r9.toInt ≤ 1) ∧ (r9 = 0 → True) ∧ (¬ r9 = 0 → 0 ≤ (s9.1 7 7).toInt ∧ (s9.1 7 7).toInt ≤ 7)) := by
  have hJ : JC 1373116004615836417089078936326677028522390253476507549696 s s := j_refl hR
  unfold f_X7_findName_52
  refine oq_if (fun c1 => ?_) (fun c1 => ?_)
  · refine oq_b (h_X4_numberOf_52 _ _ hJ.1 (by have f0 := p_a2; have f1 := i_rg a2; omega)) (fun r1 s2 hs2 => ?_)
    have js2 : JC 1373116004615836417089078936326677028522390253476507549696 s s2 := j_call hJ hs2.1 rfl
    refine oq_if (fun c2 => ?_) (fun c2 => ?_)
    · refine oq_b (h_X7_wrong _ (j_wf js2 rfl 187 rfl rfl).1 (by have f0 : (3 : Int32).toInt = 3 := rfl; omega)) (fun r3 s4 hs4 => ?_)
      have js4 : JC 1373116004615836417089078936326677028522390253476507549696 s s4 := j_call (j_wf js2 rfl 187 rfl rfl) hs4.1 rfl
      refine oq_if (fun c3 => ?_) (fun c3 => ?_)
      · exact ⟨js4, (by have f0 : (0 : Int32).toInt = 0 := rfl; omega), fun _ => trivial, fun c9 => absurd rfl c9⟩
      · exact False.elim (by have f0 := hs4.2.1; have f1 := i_rg r3; have f2 : (0 : Int32).toInt = 0 := rfl; have f3 := i_ne c3; omega)
    · exact ⟨(j_wf js2 rfl 187 rfl rfl), (by have f0 : (1 : Int32).toInt = 1 := rfl; omega), fun c9 => absurd c9 (by decide), fun c9 => ⟨(by have f0 : (0 : Int32).toInt = 0 := rfl; have f1 := i_rg ((pI s2 7 7 r1).1 7 7); have f2 := i_ne c2; have f3 : ((-1) : Int32).toInt = (-1) := rfl; omega), (by have f0 := i_rg ((pI s2 7 7 r1).1 7 7); have f1 : (7 : Int32).toInt = 7 := rfl; have f2 := i_ne c2; have f3 : ((-1) : Int32).toInt = (-1) := rfl; omega)⟩⟩
  · refine oq_b (h_X7_wrong _ hJ.1 (by have f0 : (2 : Int32).toInt = 2 := rfl; omega)) (fun r5 s6 hs6 => ?_)
    have js6 : JC 1373116004615836417089078936326677028522390253476507549696 s s6 := j_call hJ hs6.1 rfl
    refine oq_c (b01_of (by have f0 := hs6.2.1; have f1 := i_rg r5; omega)) ?_
    exact ⟨js6, (by have f0 := hs6.2.1; have f1 := i_rg r5; omega), fun _ => trivial, fun c9 => False.elim (by have f0 := hs6.2.1; have f1 := i_rg r5; have f2 := i_ne c9; have f3 : (0 : Int32).toInt = 0 := rfl; omega)⟩
theorem h_X11_has (a0 : Int32) (a1 : Int32) {s : Sg} (hR : Rg rC s) (p_a1 : 0 ≤ a1.toInt ∧ a1.toInt ≤ 7) : OQ (f_X11_has a0 a1 s) (fun r9 s9 => JC 0 s s9 ∧ (0 ≤ r9.toInt ∧ r9.toInt ≤ 1) ∧ (r9 = 0 → True) ∧ (¬ r9 = 0 → True)) := by
  have hJ : JC 0 s s := j_refl hR
  unfold f_X11_has
  refine oq_if (fun c1 => ?_) (fun c1 => ?_)
  · exact ⟨hJ, (by have f0 : (0 : Int32).toInt = 0 := rfl; omega), fun _ => trivial, fun c9 => absurd rfl c9⟩
  · exact ⟨hJ, (by have f0 : (1 : Int32).toInt = 1 := rfl; omega), fun c9 => absurd c9 (by decide), fun _ => trivial⟩
theorem h_X6_takeEnd_58 (a2 : Int32) (a3 : Int32) (a4 : Int32) {s : Sg} (hR : Rg rC s) (p_a2 : 0 ≤ a2.toInt ∧ a2.toInt ≤ 7) (p_a3 : (-1) ≤ a3.toInt ∧ a3.toInt ≤ (-1)) (p_a4 : 0 ≤ a4.toInt ∧ a4.toInt ≤ 0) (z_52_14 : 0 ≤ (s.1 52 14).toInt ∧ (s.1 52 14).toInt ≤ 7) : OQ (f_X6_takeEnd_58 a2 a3 a4 s) (fun r9 s9 => JC 1563145451683206635525513967693315367291402135003425931264 s s9 ∧ (0 ≤ r9.toInt ∧ r9.toInt ≤ 1) ∧ (r9 = 0 → (s.1 52 14).toInt ≤ 7) ∧ (¬ r9 = 0 → (s.1 52 14).toInt ≤ 7 ∧ 0 ≤ (s9.1 7 7).toInt ∧ (s9.1 7 7).toInt ≤ 7)) := by
  have hJ : JC 1563145451683206635525513967693315367291402135003425931264 s s := j_refl hR
  unfold f_X6_takeEnd_58
  refine oq_b (h_X7_findName_52 _ hJ.1 (by have f0 : (100 : Int32).toInt = 100 := rfl; omega)) (fun r1 s2 hs2 => ?_)
  have js2 : JC 1563145451683206635525513967693315367291402135003425931264 s s2 := j_call hJ hs2.1 rfl
  refine oq_if (fun c1 => ?_) (fun c1 => ?_)
  · exact ⟨js2, (by have f0 : (0 : Int32).toInt = 0 := rfl; omega), fun c9 => (by have f0 := z_52_14; have f1 := j_rd hJ 52 14 rfl; have f2 : (7 : Int32).toInt = 7 := rfl; omega), fun c9 => absurd rfl c9⟩
  · refine oq_if (fun c2 => ?_) (fun c2 => ?_)
    · exact False.elim (by have f0 := i_rg (s2.1 7 7); have f1 := p_a3; have f2 := i_rg a3; have f3 := (hs2.2.2.2 c1).1; have f4 := (hs2.2.2.2 c1).2; have f5 := i_eq c2; have f6 : (0 : Int32).toInt = 0 := rfl; have f7 : (7 : Int32).toInt = 7 := rfl; omega)
    · refine oq_b (h_X11_has _ _ js2.1 (by have f0 := i_rg (s2.1 7 7); have f1 := (hs2.2.2.2 c1).1; have f2 := (hs2.2.2.2 c1).2; have f3 := i_ne c2; have f4 : (0 : Int32).toInt = 0 := rfl; have f5 : (7 : Int32).toInt = 7 := rfl; have f6 := p_a3; have f7 := i_rg a3; omega)) (fun r5 s6 hs6 => ?_)
      have js6 : JC 1563145451683206635525513967693315367291402135003425931264 s s6 := j_call js2 hs6.1 rfl
      refine oq_if (fun c3 => ?_) (fun c3 => ?_)
      · refine oq_c (inr_of (by have f0 := p_a2; have f1 := i_rg a2; omega)) ?_
        refine oq_n (fun s8 es8 => ?_)
        have js8 : JC 1563145451683206635525513967693315367291402135003425931264 s s8 := by rw [es8]; exact (j_wr js6 rfl 58 rfl rfl (by have f0 : (s6.1 7 7).toInt = (s2.1 7 7).toInt := j_fr hs6.1 7 7 187 rfl rfl; have f1 := i_rg (s6.1 7 7); have f2 := i_rg (s2.1 7 7); have f3 := (hs2.2.2.2 c1).1; have f4 := (hs2.2.2.2 c1).2; have f5 := i_ne c2; have f6 : (0 : Int32).toInt = 0 := rfl; have f7 : (7 : Int32).toInt = 7 := rfl; have f8 := p_a3; have f9 := i_rg a3; omega))
        refine oq_b (h_X7_advance  js8.1) (fun u4 s10 hs10 => ?_)
        have js10 : JC 1563145451683206635525513967693315367291402135003425931264 s s10 := j_call js8 hs10.1 rfl
        exact ⟨js10, (by have f0 : (1 : Int32).toInt = 1 := rfl; omega), fun c9 => absurd c9 (by decide), fun c9 => ⟨(by have f0 := z_52_14; have f1 := j_rd hJ 52 14 rfl; have f2 : (7 : Int32).toInt = 7 := rfl; omega), (by have f0 : (0 : Int32).toInt = 0 := rfl; have f1 : (s10.1 7 7).toInt = (s8.1 7 7).toInt := j_fr hs10.1 7 7 187 rfl rfl; have f2 := i_rg (s10.1 7 7); have f3 : (s8.1 7 7).toInt = (s6.1 7 7).toInt := (by rw [es8]; exact u_nc rfl); have f4 := i_rg (s8.1 7 7); have f5 : (s6.1 7 7).toInt = (s2.1 7 7).toInt := j_fr hs6.1 7 7 187 rfl rfl; have f6 := i_rg (s6.1 7 7); have f7 := i_rg (s2.1 7 7); have f8 := (hs2.2.2.2 c1).1; have f9 := (hs2.2.2.2 c1).2; have f10 := i_ne c2; have f11 : (7 : Int32).toInt = 7 := rfl; have f12 := p_a3; have f13 := i_rg a3; omega), (by have f0 : (s10.1 7 7).toInt = (s8.1 7 7).toInt := j_fr hs10.1 7 7 187 rfl rfl; have f1 := i_rg (s10.1 7 7); have f2 : (7 : Int32).toInt = 7 := rfl; have f3 : (s8.1 7 7).toInt = (s6.1 7 7).toInt := (by rw [es8]; exact u_nc rfl); have f4 := i_rg (s8.1 7 7); have f5 : (s6.1 7 7).toInt = (s2.1 7 7).toInt := j_fr hs6.1 7 7 187 rfl rfl; have f6 := i_rg (s6.1 7 7); have f7 := i_rg (s2.1 7 7); have f8 := (hs2.2.2.2 c1).1; have f9 := (hs2.2.2.2 c1).2; have f10 := i_ne c2; have f11 : (0 : Int32).toInt = 0 := rfl; have f12 := p_a3; have f13 := i_rg a3; omega)⟩⟩
      · refine oq_b (h_X7_wrong _ js6.1 (by have f0 : (5 : Int32).toInt = 5 := rfl; omega)) (fun r11 s12 hs12 => ?_)
        have js12 : JC 1563145451683206635525513967693315367291402135003425931264 s s12 := j_call js6 hs12.1 rfl
        refine oq_c (b01_of (by have f0 := hs12.2.1; have f1 := i_rg r11; omega)) ?_
        exact ⟨js12, (by have f0 := hs12.2.1; have f1 := i_rg r11; omega), fun c9 => (by have f0 := z_52_14; have f1 := j_rd hJ 52 14 rfl; have f2 : (7 : Int32).toInt = 7 := rfl; omega), fun c9 => False.elim (by have f0 := hs12.2.1; have f1 := i_rg r11; have f2 := i_ne c9; have f3 : (0 : Int32).toInt = 0 := rfl; omega)⟩
theorem h_X6_takeEnd_59 (a2 : Int32) (a3 : Int32) (a4 : Int32) {s : Sg} (hR : Rg rC s) (p_a2 : 0 ≤ a2.toInt ∧ a2.toInt ≤ 7) (p_a3 : 0 ≤ a3.toInt ∧ a3.toInt ≤ 7) (p_a4 : 0 ≤ a4.toInt ∧ a4.toInt ≤ 0) (z_52_14 : 0 ≤ (s.1 52 14).toInt ∧ (s.1 52 14).toInt ≤ 7) : OQ (f_X6_takeEnd_59 a2 a3 a4 s) (fun r9 s9 => JC 1563145451683206635525513967693315367291690365379577643008 s s9 ∧ (0 ≤ r9.toInt ∧ r9.toInt ≤ 1) ∧ (r9 = 0 → (s.1 52 14).toInt ≤ 7) ∧ (¬ r9 = 0 → (s.1 52 14).toInt ≤ 7 ∧ 0 ≤ (s9.1 7 7).toInt ∧ (s9.1 7 7).toInt ≤ 7)) := by
  have hJ : JC 1563145451683206635525513967693315367291690365379577643008 s s := j_refl hR
  unfold f_X6_takeEnd_59
  refine oq_b (h_X7_findName_52 _ hJ.1 (by have f0 : (100 : Int32).toInt = 100 := rfl; omega)) (fun r1 s2 hs2 => ?_)
  have js2 : JC 1563145451683206635525513967693315367291690365379577643008 s s2 := j_call hJ hs2.1 rfl
  refine oq_if (fun c1 => ?_) (fun c1 => ?_)
  · exact ⟨js2, (by have f0 : (0 : Int32).toInt = 0 := rfl; omega), fun c9 => (by have f0 := z_52_14; have f1 := j_rd hJ 52 14 rfl; have f2 : (7 : Int32).toInt = 7 := rfl; omega), fun c9 => absurd rfl c9⟩
  · refine oq_if (fun c2 => ?_) (fun c2 => ?_)
    · refine oq_b (h_X7_wrong _ js2.1 (by have f0 : (5 : Int32).toInt = 5 := rfl; omega)) (fun r3 s4 hs4 => ?_)
      have js4 : JC 1563145451683206635525513967693315367291690365379577643008 s s4 := j_call js2 hs4.1 rfl
      refine oq_c (b01_of (by have f0 := hs4.2.1; have f1 := i_rg r3; omega)) ?_
      exact ⟨js4, (by have f0 := hs4.2.1; have f1 := i_rg r3; omega), fun c9 => (by have f0 := z_52_14; have f1 := j_rd hJ 52 14 rfl; have f2 : (7 : Int32).toInt = 7 := rfl; omega), fun c9 => False.elim (by have f0 := hs4.2.1; have f1 := i_rg r3; have f2 := i_ne c9; have f3 : (0 : Int32).toInt = 0 := rfl; omega)⟩
    · refine oq_b (h_X11_has _ _ js2.1 (by have f0 := i_rg (s2.1 7 7); have f1 := (hs2.2.2.2 c1).1; have f2 := (hs2.2.2.2 c1).2; have f3 := i_ne c2; have f4 : (0 : Int32).toInt = 0 := rfl; have f5 : (7 : Int32).toInt = 7 := rfl; have f6 := p_a3; have f7 := i_rg a3; omega)) (fun r5 s6 hs6 => ?_)
      have js6 : JC 1563145451683206635525513967693315367291690365379577643008 s s6 := j_call js2 hs6.1 rfl
      refine oq_if (fun c3 => ?_) (fun c3 => ?_)
      · refine oq_c (inr_of (by have f0 := p_a2; have f1 := i_rg a2; omega)) ?_
        refine oq_n (fun s8 es8 => ?_)
        have js8 : JC 1563145451683206635525513967693315367291690365379577643008 s s8 := by rw [es8]; exact (j_wr js6 rfl 59 rfl rfl (by have f0 : (s6.1 7 7).toInt = (s2.1 7 7).toInt := j_fr hs6.1 7 7 187 rfl rfl; have f1 := i_rg (s6.1 7 7); have f2 := i_rg (s2.1 7 7); have f3 := (hs2.2.2.2 c1).1; have f4 := (hs2.2.2.2 c1).2; have f5 := i_ne c2; have f6 : (0 : Int32).toInt = 0 := rfl; have f7 : (7 : Int32).toInt = 7 := rfl; have f8 := p_a3; have f9 := i_rg a3; omega))
        refine oq_b (h_X7_advance  js8.1) (fun u4 s10 hs10 => ?_)
        have js10 : JC 1563145451683206635525513967693315367291690365379577643008 s s10 := j_call js8 hs10.1 rfl
        exact ⟨js10, (by have f0 : (1 : Int32).toInt = 1 := rfl; omega), fun c9 => absurd c9 (by decide), fun c9 => ⟨(by have f0 := z_52_14; have f1 := j_rd hJ 52 14 rfl; have f2 : (7 : Int32).toInt = 7 := rfl; omega), (by have f0 : (0 : Int32).toInt = 0 := rfl; have f1 : (s10.1 7 7).toInt = (s8.1 7 7).toInt := j_fr hs10.1 7 7 187 rfl rfl; have f2 := i_rg (s10.1 7 7); have f3 : (s8.1 7 7).toInt = (s6.1 7 7).toInt := (by rw [es8]; exact u_nc rfl); have f4 := i_rg (s8.1 7 7); have f5 : (s6.1 7 7).toInt = (s2.1 7 7).toInt := j_fr hs6.1 7 7 187 rfl rfl; have f6 := i_rg (s6.1 7 7); have f7 := i_rg (s2.1 7 7); have f8 := (hs2.2.2.2 c1).1; have f9 := (hs2.2.2.2 c1).2; have f10 := i_ne c2; have f11 : (7 : Int32).toInt = 7 := rfl; have f12 := p_a3; have f13 := i_rg a3; omega), (by have f0 : (s10.1 7 7).toInt = (s8.1 7 7).toInt := j_fr hs10.1 7 7 187 rfl rfl; have f1 := i_rg (s10.1 7 7); have f2 : (7 : Int32).toInt = 7 := rfl; have f3 : (s8.1 7 7).toInt = (s6.1 7 7).toInt := (by rw [es8]; exact u_nc rfl); have f4 := i_rg (s8.1 7 7); have f5 : (s6.1 7 7).toInt = (s2.1 7 7).toInt := j_fr hs6.1 7 7 187 rfl rfl; have f6 := i_rg (s6.1 7 7); have f7 := i_rg (s2.1 7 7); have f8 := (hs2.2.2.2 c1).1; have f9 := (hs2.2.2.2 c1).2; have f10 := i_ne c2; have f11 : (0 : Int32).toInt = 0 := rfl; have f12 := p_a3; have f13 := i_rg a3; omega)⟩⟩
      · refine oq_b (h_X7_wrong _ js6.1 (by have f0 : (5 : Int32).toInt = 5 := rfl; omega)) (fun r11 s12 hs12 => ?_)
        have js12 : JC 1563145451683206635525513967693315367291690365379577643008 s s12 := j_call js6 hs12.1 rfl
        refine oq_c (b01_of (by have f0 := hs12.2.1; have f1 := i_rg r11; omega)) ?_
        exact ⟨js12, (by have f0 := hs12.2.1; have f1 := i_rg r11; omega), fun c9 => (by have f0 := z_52_14; have f1 := j_rd hJ 52 14 rfl; have f2 : (7 : Int32).toInt = 7 := rfl; omega), fun c9 => False.elim (by have f0 := hs12.2.1; have f1 := i_rg r11; have f2 := i_ne c9; have f3 : (0 : Int32).toInt = 0 := rfl; omega)⟩
theorem h_X4_joinAt_52 (a1 : Int32) {s : Sg} (hR : Rg rC s) (p_a1 : 0 ≤ a1.toInt ∧ a1.toInt ≤ 7) (z_52_14 : 0 ≤ (s.1 52 14).toInt ∧ (s.1 52 14).toInt ≤ 7) : OQ (f_X4_joinAt_52 a1 s) (fun _ s9 => JC 2305843009213693952 s s9 ∧ True) := by
  have hJ : JC 2305843009213693952 s s := j_refl hR
  unfold f_X4_joinAt_52
  refine oq_c (inr_of (by have f0 := p_a1; have f1 := i_rg a1; omega)) ?_
  refine oq_c (inr_of (by have f0 := j_rd hJ 58 a1.toNatClampNeg rfl; omega)) ?_
  refine oq_n (fun s3 es3 => ?_)
  have js3 : JC 2305843009213693952 s s3 := by rw [es3]; exact (j_wf hJ rfl 61 rfl rfl)
  refine oq_c (inr_of (by have f0 := j_rd js3 59 a1.toNatClampNeg rfl; omega)) ?_
  refine oq_n (fun s5 es5 => ?_)
  have js5 : JC 2305843009213693952 s s5 := by rw [es5]; exact (j_wf js3 rfl 61 rfl rfl)
  exact ⟨js5, trivial⟩
theorem h_X6_takeQuarrel  {s : Sg} (hR : Rg rC s) : OQ (f_X6_takeQuarrel  s) (fun r9 s9 => JC 32140324030631488717474767360790945365811355565217705388670976 s s9 ∧ (0 ≤ r9.toInt ∧ r9.toInt ≤ 1) ∧ (r9 = 0 → True) ∧ (¬ r9 = 0 → (s.1 52 14).toInt ≤ 7 ∧ 0 ≤ (s9.1 7 7).toInt)) := by
  have hJ : JC 32140324030631488717474767360790945365811355565217705388670976 s s := j_refl hR
  unfold f_X6_takeQuarrel
  refine oq_b (h_X6_takeNew _ _ _ hJ.1 (by have f0 : (104 : Int32).toInt = 104 := rfl; omega) (by have f0 := j_rd hJ 52 14 rfl; omega) (by have f0 : (8 : Int32).toInt = 8 := rfl; omega)) (fun r1 s2 hs2 => ?_)
  have js2 : JC 32140324030631488717474767360790945365811355565217705388670976 s s2 := j_call hJ hs2.1 rfl
  refine oq_if (fun c1 => ?_) (fun c1 => ?_)
  · exact ⟨js2, (by have f0 : (0 : Int32).toInt = 0 := rfl; omega), fun _ => trivial, fun c9 => absurd rfl c9⟩
  · refine oq_b (h_X7_pass _ js2.1 (by have f0 : (105 : Int32).toInt = 105 := rfl; omega)) (fun r3 s4 hs4 => ?_)
    have js4 : JC 32140324030631488717474767360790945365811355565217705388670976 s s4 := j_call js2 hs4.1 rfl
    refine oq_if (fun c2 => ?_) (fun c2 => ?_)
    · exact ⟨js4, (by have f0 : (0 : Int32).toInt = 0 := rfl; omega), fun _ => trivial, fun c9 => absurd rfl c9⟩
    · refine oq_b (h_X6_takeEnd_58 _ _ _ js4.1 (by have f0 := j_rd hJ 52 14 rfl; have f1 := (hs2.2.2.2 c1).1; have f2 := (hs2.2.2.2 c1).2; have f3 : (8 : Int32).toInt = 8 := rfl; have f4 : (7 : Int32).toInt = 7 := rfl; omega) (by have f0 : ((-1) : Int32).toInt = (-1) := rfl; omega) (by have f0 : (0 : Int32).toInt = 0 := rfl; omega) (by have f0 := j_rd js4 52 14 rfl; have f1 : (s4.1 52 14).toInt = (s2.1 52 14).toInt := j_fr hs4.1 52 14 204 rfl rfl; have f2 := j_rd js2 52 14 rfl; have f3 : (s2.1 52 14).toInt = (s.1 52 14).toInt := j_fr hs2.1 52 14 204 rfl rfl; have f4 := j_rd hJ 52 14 rfl; have f5 := (hs2.2.2.2 c1).1; have f6 := (hs2.2.2.2 c1).2; have f7 : (8 : Int32).toInt = 8 := rfl; have f8 : (7 : Int32).toInt = 7 := rfl; omega)) (fun r5 s6 hs6 => ?_)
      have js6 : JC 32140324030631488717474767360790945365811355565217705388670976 s s6 := j_call js4 hs6.1 rfl
      refine oq_if (fun c3 => ?_) (fun c3 => ?_)
      · exact ⟨js6, (by have f0 : (0 : Int32).toInt = 0 := rfl; omega), fun _ => trivial, fun c9 => absurd rfl c9⟩
      · refine oq_b (h_X7_pass _ js6.1 (by have f0 : (106 : Int32).toInt = 106 := rfl; omega)) (fun r7 s8 hs8 => ?_)
        have js8 : JC 32140324030631488717474767360790945365811355565217705388670976 s s8 := j_call js6 hs8.1 rfl
        refine oq_if (fun c4 => ?_) (fun c4 => ?_)
        · exact ⟨js8, (by have f0 : (0 : Int32).toInt = 0 := rfl; omega), fun _ => trivial, fun c9 => absurd rfl c9⟩
        · refine oq_c (inr_of (by have f0 := j_rd hJ 52 14 rfl; have f1 := (hs2.2.2.2 c1).1; have f2 := (hs2.2.2.2 c1).2; have f3 : (8 : Int32).toInt = 8 := rfl; have f4 : (7 : Int32).toInt = 7 := rfl; omega)) ?_
          refine oq_b (h_X6_takeEnd_59 _ _ _ js8.1 (by have f0 := j_rd hJ 52 14 rfl; have f1 := (hs2.2.2.2 c1).1; have f2 := (hs2.2.2.2 c1).2; have f3 : (8 : Int32).toInt = 8 := rfl; have f4 : (7 : Int32).toInt = 7 := rfl; omega) (by have f0 := j_rd js8 58 ((s.1 52 14).toNatClampNeg) rfl; omega) (by have f0 : (0 : Int32).toInt = 0 := rfl; omega) (by have f0 := j_rd js8 52 14 rfl; have f1 : (s8.1 52 14).toInt = (s6.1 52 14).toInt := j_fr hs8.1 52 14 204 rfl rfl; have f2 := j_rd js6 52 14 rfl; have f3 : (s6.1 52 14).toInt = (s4.1 52 14).toInt := j_fr hs6.1 52 14 204 rfl rfl; have f4 := j_rd js4 52 14 rfl; have f5 : (s4.1 52 14).toInt = (s2.1 52 14).toInt := j_fr hs4.1 52 14 204 rfl rfl; have f6 := j_rd js2 52 14 rfl; have f7 : (s2.1 52 14).toInt = (s.1 52 14).toInt := j_fr hs2.1 52 14 204 rfl rfl; have f8 := j_rd hJ 52 14 rfl; have f9 := (hs2.2.2.2 c1).1; have f10 := (hs2.2.2.2 c1).2; have f11 := (hs6.2.2.2 c3).1; have f12 : (8 : Int32).toInt = 8 := rfl; have f13 : (7 : Int32).toInt = 7 := rfl; omega)) (fun r10 s11 hs11 => ?_)
          have js11 : JC 32140324030631488717474767360790945365811355565217705388670976 s s11 := j_call js8 hs11.1 rfl
          refine oq_if (fun c5 => ?_) (fun c5 => ?_)
          · exact ⟨js11, (by have f0 : (0 : Int32).toInt = 0 := rfl; omega), fun _ => trivial, fun c9 => absurd rfl c9⟩
          · refine oq_b (h_X7_pass _ js11.1 (by have f0 : (107 : Int32).toInt = 107 := rfl; omega)) (fun r12 s13 hs13 => ?_)
            have js13 : JC 32140324030631488717474767360790945365811355565217705388670976 s s13 := j_call js11 hs13.1 rfl
            refine oq_if (fun c6 => ?_) (fun c6 => ?_)
            · exact ⟨js13, (by have f0 : (0 : Int32).toInt = 0 := rfl; omega), fun _ => trivial, fun c9 => absurd rfl c9⟩
            · refine oq_b (h_X7_passNumber _ _ js13.1 (by have f0 : (1 : Int32).toInt = 1 := rfl; omega) (by have f0 : (99 : Int32).toInt = 99 := rfl; omega)) (fun r14 s15 hs15 => ?_)
              have js15 : JC 32140324030631488717474767360790945365811355565217705388670976 s s15 := j_call js13 hs15.1 rfl
              refine oq_if (fun c7 => ?_) (fun c7 => ?_)
              · exact ⟨js15, (by have f0 : (0 : Int32).toInt = 0 := rfl; omega), fun _ => trivial, fun c9 => absurd rfl c9⟩
              · refine oq_n (fun s16 es16 => ?_)
                have js16 : JC 32140324030631488717474767360790945365811355565217705388670976 s s16 := by rw [es16]; exact (j_wf js15 rfl 60 rfl rfl)
                refine oq_b (h_X4_joinAt_52 _ js16.1 (by have f0 := j_rd hJ 52 14 rfl; have f1 := (hs2.2.2.2 c1).1; have f2 := (hs2.2.2.2 c1).2; have f3 : (8 : Int32).toInt = 8 := rfl; have f4 : (7 : Int32).toInt = 7 := rfl; omega) (by have f0 := j_rd js16 52 14 rfl; have f1 : (s16.1 52 14).toInt = (s15.1 52 14).toInt := (by rw [es16]; exact u_nc rfl); have f2 := j_rd js15 52 14 rfl; have f3 : (s15.1 52 14).toInt = (s13.1 52 14).toInt := j_fr hs15.1 52 14 204 rfl rfl; have f4 := j_rd js13 52 14 rfl; have f5 : (s13.1 52 14).toInt = (s11.1 52 14).toInt := j_fr hs13.1 52 14 204 rfl rfl; have f6 := j_rd js11 52 14 rfl; have f7 : (s11.1 52 14).toInt = (s8.1 52 14).toInt := j_fr hs11.1 52 14 204 rfl rfl; have f8 := j_rd js8 52 14 rfl; have f9 : (s8.1 52 14).toInt = (s6.1 52 14).toInt := j_fr hs8.1 52 14 204 rfl rfl; have f10 := j_rd js6 52 14 rfl; have f11 : (s6.1 52 14).toInt = (s4.1 52 14).toInt := j_fr hs6.1 52 14 204 rfl rfl; have f12 := j_rd js4 52 14 rfl; have f13 : (s4.1 52 14).toInt = (s2.1 52 14).toInt := j_fr hs4.1 52 14 204 rfl rfl; have f14 := j_rd js2 52 14 rfl; have f15 : (s2.1 52 14).toInt = (s.1 52 14).toInt := j_fr hs2.1 52 14 204 rfl rfl; have f16 := j_rd hJ 52 14 rfl; have f17 := (hs2.2.2.2 c1).1; have f18 := (hs2.2.2.2 c1).2; have f19 := (hs6.2.2.2 c3).1; have f20 := (hs11.2.2.2 c5).1; have f21 : (8 : Int32).toInt = 8 := rfl; have f22 : (7 : Int32).toInt = 7 := rfl; omega)) (fun u8 s18 hs18 => ?_)
                have js18 : JC 32140324030631488717474767360790945365811355565217705388670976 s s18 := j_call js16 hs18.1 rfl
                refine oq_n (fun s19 es19 => ?_)
                have js19 : JC 32140324030631488717474767360790945365811355565217705388670976 s s19 := by rw [es19]; exact (j_wr js18 rfl 204 rfl rfl (by have f0 := i_add (s18.1 52 14) ((1 : Int32)); have f1 := j_rd js18 52 14 rfl; have f2 : (s18.1 52 14).toInt = (s16.1 52 14).toInt := j_fr hs18.1 52 14 204 rfl rfl; have f3 : (1 : Int32).toInt = 1 := rfl; have f4 := j_rd js16 52 14 rfl; have f5 : (s16.1 52 14).toInt = (s15.1 52 14).toInt := (by rw [es16]; exact u_nc rfl); have f6 := j_rd js15 52 14 rfl; have f7 : (s15.1 52 14).toInt = (s13.1 52 14).toInt := j_fr hs15.1 52 14 204 rfl rfl; have f8 := j_rd js13 52 14 rfl; have f9 : (s13.1 52 14).toInt = (s11.1 52 14).toInt := j_fr hs13.1 52 14 204 rfl rfl; have f10 := j_rd js11 52 14 rfl; have f11 : (s11.1 52 14).toInt = (s8.1 52 14).toInt := j_fr hs11.1 52 14 204 rfl rfl; have f12 := j_rd js8 52 14 rfl; have f13 : (s8.1 52 14).toInt = (s6.1 52 14).toInt := j_fr hs8.1 52 14 204 rfl rfl; have f14 := j_rd js6 52 14 rfl; have f15 : (s6.1 52 14).toInt = (s4.1 52 14).toInt := j_fr hs6.1 52 14 204 rfl rfl; have f16 := j_rd js4 52 14 rfl; have f17 : (s4.1 52 14).toInt = (s2.1 52 14).toInt := j_fr hs4.1 52 14 204 rfl rfl; have f18 := j_rd js2 52 14 rfl; have f19 : (s2.1 52 14).toInt = (s.1 52 14).toInt := j_fr hs2.1 52 14 204 rfl rfl; have f20 := j_rd hJ 52 14 rfl; have f21 := (hs2.2.2.2 c1).1; have f22 := (hs2.2.2.2 c1).2; have f23 := (hs6.2.2.2 c3).1; have f24 := (hs11.2.2.2 c5).1; have f25 : (8 : Int32).toInt = 8 := rfl; have f26 : (7 : Int32).toInt = 7 := rfl; omega))
                refine oq_b (h_X7_pass _ js19.1 (by have f0 : (59 : Int32).toInt = 59 := rfl; omega)) (fun r20 s21 hs21 => ?_)
                have js21 : JC 32140324030631488717474767360790945365811355565217705388670976 s s21 := j_call js19 hs21.1 rfl
                refine oq_c (b01_of (by have f0 := hs21.2.1; have f1 := i_rg r20; omega)) ?_
                exact ⟨js21, (by have f0 := hs21.2.1; have f1 := i_rg r20; omega), fun _ => trivial, fun c9 => ⟨(by have f0 := j_rd hJ 52 14 rfl; have f1 : (7 : Int32).toInt = 7 := rfl; have f2 := (hs2.2.2.2 c1).1; have f3 := (hs2.2.2.2 c1).2; have f4 : (8 : Int32).toInt = 8 := rfl; omega), (by have f0 : (0 : Int32).toInt = 0 := rfl; have f1 : (s21.1 7 7).toInt = (s19.1 7 7).toInt := j_fr hs21.1 7 7 187 rfl rfl; have f2 := i_rg (s21.1 7 7); have f3 : (s19.1 7 7).toInt = (s18.1 7 7).toInt := (by rw [es19]; exact u_nc rfl); have f4 := i_rg (s19.1 7 7); have f5 : (s18.1 7 7).toInt = (s16.1 7 7).toInt := j_fr hs18.1 7 7 187 rfl rfl; have f6 := i_rg (s18.1 7 7); have f7 : (s16.1 7 7).toInt = (s15.1 7 7).toInt := (by rw [es16]; exact u_nc rfl); have f8 := i_rg (s16.1 7 7); have f9 := i_rg (s15.1 7 7); have f10 := (hs15.2.2.2 c7); omega)⟩⟩
theorem h_X6_takeEnd_62 (a2 : Int32) (a3 : Int32) (a4 : Int32) {s : Sg} (hR : Rg rC s) (p_a2 : 0 ≤ a2.toInt ∧ a2.toInt ≤ 3) (p_a3 : (-1) ≤ a3.toInt ∧ a3.toInt ≤ (-1)) (z_52_15 : 0 ≤ (s.1 52 15).toInt ∧ (s.1 52 15).toInt ≤ 3) : OQ (f_X6_takeEnd_62 a2 a3 a4 s) (fun r9 s9 => JC 1563145451683206635525513967693315367295725590645701607424 s s9 ∧ (0 ≤ r9.toInt ∧ r9.toInt ≤ 1) ∧ (r9 = 0 → (s.1 52 15).toInt ≤ 3) ∧ (¬ r9 = 0 → (s.1 52 15).toInt ≤ 3 ∧ 0 ≤ (s9.1 7 7).toInt ∧ (s9.1 7 7).toInt ≤ 7)) := by
  have hJ : JC 1563145451683206635525513967693315367295725590645701607424 s s := j_refl hR
  unfold f_X6_takeEnd_62
  refine oq_b (h_X7_findName_52 _ hJ.1 (by have f0 : (100 : Int32).toInt = 100 := rfl; omega)) (fun r1 s2 hs2 => ?_)
  have js2 : JC 1563145451683206635525513967693315367295725590645701607424 s s2 := j_call hJ hs2.1 rfl
  refine oq_if (fun c1 => ?_) (fun c1 => ?_)
  · exact ⟨js2, (by have f0 : (0 : Int32).toInt = 0 := rfl; omega), fun c9 => (by have f0 := z_52_15; have f1 := j_rd hJ 52 15 rfl; have f2 : (3 : Int32).toInt = 3 := rfl; omega), fun c9 => absurd rfl c9⟩
  · refine oq_if (fun c2 => ?_) (fun c2 => ?_)
    · exact False.elim (by have f0 := i_rg (s2.1 7 7); have f1 := p_a3; have f2 := i_rg a3; have f3 := (hs2.2.2.2 c1).1; have f4 := (hs2.2.2.2 c1).2; have f5 := i_eq c2; have f6 : (0 : Int32).toInt = 0 := rfl; have f7 : (7 : Int32).toInt = 7 := rfl; omega)
    · refine oq_b (h_X11_has _ _ js2.1 (by have f0 := i_rg (s2.1 7 7); have f1 := (hs2.2.2.2 c1).1; have f2 := (hs2.2.2.2 c1).2; have f3 := i_ne c2; have f4 : (0 : Int32).toInt = 0 := rfl; have f5 : (7 : Int32).toInt = 7 := rfl; have f6 := p_a3; have f7 := i_rg a3; omega)) (fun r5 s6 hs6 => ?_)
      have js6 : JC 1563145451683206635525513967693315367295725590645701607424 s s6 := j_call js2 hs6.1 rfl
      refine oq_if (fun c3 => ?_) (fun c3 => ?_)
      · refine oq_c (inr_of (by have f0 := p_a2; have f1 := i_rg a2; omega)) ?_
        refine oq_n (fun s8 es8 => ?_)
        have js8 : JC 1563145451683206635525513967693315367295725590645701607424 s s8 := by rw [es8]; exact (j_wr js6 rfl 62 rfl rfl (by have f0 : (s6.1 7 7).toInt = (s2.1 7 7).toInt := j_fr hs6.1 7 7 187 rfl rfl; have f1 := i_rg (s6.1 7 7); have f2 := i_rg (s2.1 7 7); have f3 := (hs2.2.2.2 c1).1; have f4 := (hs2.2.2.2 c1).2; have f5 := i_ne c2; have f6 : (0 : Int32).toInt = 0 := rfl; have f7 : (7 : Int32).toInt = 7 := rfl; have f8 := p_a3; have f9 := i_rg a3; omega))
        refine oq_b (h_X7_advance  js8.1) (fun u4 s10 hs10 => ?_)
        have js10 : JC 1563145451683206635525513967693315367295725590645701607424 s s10 := j_call js8 hs10.1 rfl
        exact ⟨js10, (by have f0 : (1 : Int32).toInt = 1 := rfl; omega), fun c9 => absurd c9 (by decide), fun c9 => ⟨(by have f0 := z_52_15; have f1 := j_rd hJ 52 15 rfl; have f2 : (3 : Int32).toInt = 3 := rfl; omega), (by have f0 : (0 : Int32).toInt = 0 := rfl; have f1 : (s10.1 7 7).toInt = (s8.1 7 7).toInt := j_fr hs10.1 7 7 187 rfl rfl; have f2 := i_rg (s10.1 7 7); have f3 : (s8.1 7 7).toInt = (s6.1 7 7).toInt := (by rw [es8]; exact u_nc rfl); have f4 := i_rg (s8.1 7 7); have f5 : (s6.1 7 7).toInt = (s2.1 7 7).toInt := j_fr hs6.1 7 7 187 rfl rfl; have f6 := i_rg (s6.1 7 7); have f7 := i_rg (s2.1 7 7); have f8 := (hs2.2.2.2 c1).1; have f9 := (hs2.2.2.2 c1).2; have f10 := i_ne c2; have f11 : (7 : Int32).toInt = 7 := rfl; have f12 := p_a3; have f13 := i_rg a3; omega), (by have f0 : (s10.1 7 7).toInt = (s8.1 7 7).toInt := j_fr hs10.1 7 7 187 rfl rfl; have f1 := i_rg (s10.1 7 7); have f2 : (7 : Int32).toInt = 7 := rfl; have f3 : (s8.1 7 7).toInt = (s6.1 7 7).toInt := (by rw [es8]; exact u_nc rfl); have f4 := i_rg (s8.1 7 7); have f5 : (s6.1 7 7).toInt = (s2.1 7 7).toInt := j_fr hs6.1 7 7 187 rfl rfl; have f6 := i_rg (s6.1 7 7); have f7 := i_rg (s2.1 7 7); have f8 := (hs2.2.2.2 c1).1; have f9 := (hs2.2.2.2 c1).2; have f10 := i_ne c2; have f11 : (0 : Int32).toInt = 0 := rfl; have f12 := p_a3; have f13 := i_rg a3; omega)⟩⟩
      · refine oq_b (h_X7_wrong _ js6.1 (by have f0 : (5 : Int32).toInt = 5 := rfl; omega)) (fun r11 s12 hs12 => ?_)
        have js12 : JC 1563145451683206635525513967693315367295725590645701607424 s s12 := j_call js6 hs12.1 rfl
        refine oq_c (b01_of (by have f0 := hs12.2.1; have f1 := i_rg r11; omega)) ?_
        exact ⟨js12, (by have f0 := hs12.2.1; have f1 := i_rg r11; omega), fun c9 => (by have f0 := z_52_15; have f1 := j_rd hJ 52 15 rfl; have f2 : (3 : Int32).toInt = 3 := rfl; omega), fun c9 => False.elim (by have f0 := hs12.2.1; have f1 := i_rg r11; have f2 := i_ne c9; have f3 : (0 : Int32).toInt = 0 := rfl; omega)⟩
theorem h_X6_takeEnd_63 (a2 : Int32) (a3 : Int32) (a4 : Int32) {s : Sg} (hR : Rg rC s) (p_a2 : 0 ≤ a2.toInt ∧ a2.toInt ≤ 3) (p_a3 : 0 ≤ a3.toInt ∧ a3.toInt ≤ 7) (z_52_15 : 0 ≤ (s.1 52 15).toInt ∧ (s.1 52 15).toInt ≤ 3) : OQ (f_X6_takeEnd_63 a2 a3 a4 s) (fun r9 s9 => JC 1563145451683206635525513967693315367300337276664128995328 s s9 ∧ (0 ≤ r9.toInt ∧ r9.toInt ≤ 1) ∧ (r9 = 0 → (s.1 52 15).toInt ≤ 3) ∧ (¬ r9 = 0 → (s.1 52 15).toInt ≤ 3 ∧ 0 ≤ (s9.1 7 7).toInt ∧ (s9.1 7 7).toInt ≤ 7)) := by
  have hJ : JC 1563145451683206635525513967693315367300337276664128995328 s s := j_refl hR
  unfold f_X6_takeEnd_63
  refine oq_b (h_X7_findName_52 _ hJ.1 (by have f0 : (100 : Int32).toInt = 100 := rfl; omega)) (fun r1 s2 hs2 => ?_)
  have js2 : JC 1563145451683206635525513967693315367300337276664128995328 s s2 := j_call hJ hs2.1 rfl
  refine oq_if (fun c1 => ?_) (fun c1 => ?_)
  · exact ⟨js2, (by have f0 : (0 : Int32).toInt = 0 := rfl; omega), fun c9 => (by have f0 := z_52_15; have f1 := j_rd hJ 52 15 rfl; have f2 : (3 : Int32).toInt = 3 := rfl; omega), fun c9 => absurd rfl c9⟩
  · refine oq_if (fun c2 => ?_) (fun c2 => ?_)
    · refine oq_b (h_X7_wrong _ js2.1 (by have f0 : (5 : Int32).toInt = 5 := rfl; omega)) (fun r3 s4 hs4 => ?_)
      have js4 : JC 1563145451683206635525513967693315367300337276664128995328 s s4 := j_call js2 hs4.1 rfl
      refine oq_c (b01_of (by have f0 := hs4.2.1; have f1 := i_rg r3; omega)) ?_
      exact ⟨js4, (by have f0 := hs4.2.1; have f1 := i_rg r3; omega), fun c9 => (by have f0 := z_52_15; have f1 := j_rd hJ 52 15 rfl; have f2 : (3 : Int32).toInt = 3 := rfl; omega), fun c9 => False.elim (by have f0 := hs4.2.1; have f1 := i_rg r3; have f2 := i_ne c9; have f3 : (0 : Int32).toInt = 0 := rfl; omega)⟩
    · refine oq_b (h_X11_has _ _ js2.1 (by have f0 := i_rg (s2.1 7 7); have f1 := (hs2.2.2.2 c1).1; have f2 := (hs2.2.2.2 c1).2; have f3 := i_ne c2; have f4 : (0 : Int32).toInt = 0 := rfl; have f5 : (7 : Int32).toInt = 7 := rfl; have f6 := p_a3; have f7 := i_rg a3; omega)) (fun r5 s6 hs6 => ?_)
      have js6 : JC 1563145451683206635525513967693315367300337276664128995328 s s6 := j_call js2 hs6.1 rfl
      refine oq_if (fun c3 => ?_) (fun c3 => ?_)
      · refine oq_c (inr_of (by have f0 := p_a2; have f1 := i_rg a2; omega)) ?_
        refine oq_n (fun s8 es8 => ?_)
        have js8 : JC 1563145451683206635525513967693315367300337276664128995328 s s8 := by rw [es8]; exact (j_wr js6 rfl 63 rfl rfl (by have f0 : (s6.1 7 7).toInt = (s2.1 7 7).toInt := j_fr hs6.1 7 7 187 rfl rfl; have f1 := i_rg (s6.1 7 7); have f2 := i_rg (s2.1 7 7); have f3 := (hs2.2.2.2 c1).1; have f4 := (hs2.2.2.2 c1).2; have f5 := i_ne c2; have f6 : (0 : Int32).toInt = 0 := rfl; have f7 : (7 : Int32).toInt = 7 := rfl; have f8 := p_a3; have f9 := i_rg a3; omega))
        refine oq_b (h_X7_advance  js8.1) (fun u4 s10 hs10 => ?_)
        have js10 : JC 1563145451683206635525513967693315367300337276664128995328 s s10 := j_call js8 hs10.1 rfl
        exact ⟨js10, (by have f0 : (1 : Int32).toInt = 1 := rfl; omega), fun c9 => absurd c9 (by decide), fun c9 => ⟨(by have f0 := z_52_15; have f1 := j_rd hJ 52 15 rfl; have f2 : (3 : Int32).toInt = 3 := rfl; omega), (by have f0 : (0 : Int32).toInt = 0 := rfl; have f1 : (s10.1 7 7).toInt = (s8.1 7 7).toInt := j_fr hs10.1 7 7 187 rfl rfl; have f2 := i_rg (s10.1 7 7); have f3 : (s8.1 7 7).toInt = (s6.1 7 7).toInt := (by rw [es8]; exact u_nc rfl); have f4 := i_rg (s8.1 7 7); have f5 : (s6.1 7 7).toInt = (s2.1 7 7).toInt := j_fr hs6.1 7 7 187 rfl rfl; have f6 := i_rg (s6.1 7 7); have f7 := i_rg (s2.1 7 7); have f8 := (hs2.2.2.2 c1).1; have f9 := (hs2.2.2.2 c1).2; have f10 := i_ne c2; have f11 : (7 : Int32).toInt = 7 := rfl; have f12 := p_a3; have f13 := i_rg a3; omega), (by have f0 : (s10.1 7 7).toInt = (s8.1 7 7).toInt := j_fr hs10.1 7 7 187 rfl rfl; have f1 := i_rg (s10.1 7 7); have f2 : (7 : Int32).toInt = 7 := rfl; have f3 : (s8.1 7 7).toInt = (s6.1 7 7).toInt := (by rw [es8]; exact u_nc rfl); have f4 := i_rg (s8.1 7 7); have f5 : (s6.1 7 7).toInt = (s2.1 7 7).toInt := j_fr hs6.1 7 7 187 rfl rfl; have f6 := i_rg (s6.1 7 7); have f7 := i_rg (s2.1 7 7); have f8 := (hs2.2.2.2 c1).1; have f9 := (hs2.2.2.2 c1).2; have f10 := i_ne c2; have f11 : (0 : Int32).toInt = 0 := rfl; have f12 := p_a3; have f13 := i_rg a3; omega)⟩⟩
      · refine oq_b (h_X7_wrong _ js6.1 (by have f0 : (5 : Int32).toInt = 5 := rfl; omega)) (fun r11 s12 hs12 => ?_)
        have js12 : JC 1563145451683206635525513967693315367300337276664128995328 s s12 := j_call js6 hs12.1 rfl
        refine oq_c (b01_of (by have f0 := hs12.2.1; have f1 := i_rg r11; omega)) ?_
        exact ⟨js12, (by have f0 := hs12.2.1; have f1 := i_rg r11; omega), fun c9 => (by have f0 := z_52_15; have f1 := j_rd hJ 52 15 rfl; have f2 : (3 : Int32).toInt = 3 := rfl; omega), fun c9 => False.elim (by have f0 := hs12.2.1; have f1 := i_rg r11; have f2 := i_ne c9; have f3 : (0 : Int32).toInt = 0 := rfl; omega)⟩
