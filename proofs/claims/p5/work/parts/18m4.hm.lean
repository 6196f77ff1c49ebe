theorem h_X12_chain_b55 {s0 : Sg} (k_29 : Int32 → Int32 → Int32 → Sg → Option (Int32 × Sg)) (m_29 : Nat) (hk_29 : ∀ (v2 : Int32) (v3 : Int32) (v4 : Int32) (s : Sg), JM 4194304 s0 s → 0 ≤ v2.toInt ∧ v2.toInt ≤ 511 → 0 ≤ v3.toInt ∧ v3.toInt ≤ 7 → 0 ≤ v4.toInt ∧ v4.toInt ≤ 8 → 8 - v3.toInt < (m_20 : Int) + 1 → 8 - v4.toInt < (m_29 : Int) → OQ (k_29 v2 v3 v4 s) (fun r9 s9 => JM 4194304 s0 s9 ∧ True ∧ (r9 = 0 → True) ∧ (¬ r9 = 0 → True))) (n : Nat) : ∀ (v2 : Int32) (v3 : Int32) (v4 : Int32) (v5 : Int32) (s : Sg), JM 4194304 s0 s → 0 ≤ v2.toInt ∧ v2.toInt ≤ 511 → 0 ≤ v3.toInt ∧ v3.toInt ≤ 7 → 0 ≤ v4.toInt ∧ v4.toInt ≤ 7 → 0 ≤ v5.toInt ∧ v5.toInt ≤ 8 → 8 - v4.toInt < (m_29 : Int) + 1 → 8 - v5.toInt < (n : Int) → OQ (f_X12_chain_b55 k_29 n v2 v3 v4 v5 s) (fun r9 s9 => JM 4194304 s0 s9 ∧ True ∧ (r9 = 0 → True) ∧ (¬ r9 = 0 → True)) := by
  induction n with
  | zero => intro v2 v3 v4 v5 s hJ p_v2 p_v3 p_v4 p_v5 hm_29 hn; exact False.elim (by have g0 := hn; have g1 := p_v2; have g2 := p_v3; have g3 := p_v4; have g4 := p_v5; have g5 := i_rg v2; have g6 := i_rg v3; have g7 := i_rg v4; have g8 := i_rg v5; omega)
  | succ n ih =>
    intro v2 v3 v4 v5 s hJ p_v2 p_v3 p_v4 p_v5 hm_29 hn
    unfold f_X12_chain_b55
    refine oq_if (fun c1 => ?_) (fun c1 => ?_)
    · exact hk_29 _ _ _ _ hJ (by have f0 := p_v2; have f1 := i_rg v2; omega) (by have f0 := p_v3; have f1 := i_rg v3; omega) (by have f0 := i_add (v4) ((1 : Int32)); have f1 := p_v4; have f2 := i_rg v4; have f3 : (1 : Int32).toInt = 1 := rfl; omega) (by have g0 := i_add (v4) ((1 : Int32)); have g1 := p_v2; have g2 := i_rg v2; have g3 := p_v3; have g4 := i_rg v3; have g5 := p_v4; have g6 := i_rg v4; have g7 : (1 : Int32).toInt = 1 := rfl; have g8 := hm_20; omega) (by have g0 := i_add (v4) ((1 : Int32)); have g1 := p_v2; have g2 := i_rg v2; have g3 := p_v3; have g4 := i_rg v3; have g5 := p_v4; have g6 := i_rg v4; have g7 : (1 : Int32).toInt = 1 := rfl; have g8 := hm_29; omega)
    · refine oq_b (h_X12_quarrelHouse _ _ hJ.1 (by have f0 := p_v4; have f1 := i_rg v4; omega) (by have f0 : (0 : Int32).toInt = 0 := rfl; omega)) (fun r8 s9 hs9 => ?_)
      have js9 : JM 4194304 s0 s9 := j_call hJ hs9.1 rfl
      refine oq_c (inr_of (by have f0 := hs9.2.1; have f1 := i_rg r8; have f2 := hs9.2.1.2; have f3 := p_v4; have f4 := i_rg v4; have f5 : (0 : Int32).toInt = 0 := rfl; omega)) ?_
      refine oq_b (h_X12_isAt _ _ js9.1 (by have f0 := p_v5; have f1 := i_rg v5; have f2 := i_nle c1; have f3 := j_rd hJ 1 1 0 8 rfl; omega)) (fun r11 s12 hs12 => ?_)
      have js12 : JM 4194304 s0 s12 := j_call js9 hs12.1 rfl
      refine oq_if (fun c2 => ?_) (fun c2 => ?_)
      · refine oq_b (h_X12_quarrelHouse _ _ js12.1 (by have f0 := p_v4; have f1 := i_rg v4; omega) (by have f0 : (1 : Int32).toInt = 1 := rfl; omega)) (fun r13 s14 hs14 => ?_)
        have js14 : JM 4194304 s0 s14 := j_call js12 hs14.1 rfl
        refine oq_c (inr_of (by have f0 := hs14.2.1; have f1 := i_rg r13; have f2 := hs14.2.1.2; have f3 := p_v4; have f4 := i_rg v4; have f5 : (1 : Int32).toInt = 1 := rfl; omega)) ?_
        refine oq_b (h_X12_isAt _ _ js14.1 (by have f0 := p_v5; have f1 := i_rg v5; have f2 := i_nle c1; have f3 := j_rd hJ 1 1 0 8 rfl; omega)) (fun r16 s17 hs17 => ?_)
        have js17 : JM 4194304 s0 s17 := j_call js14 hs17.1 rfl
        refine oq_if (fun c3 => ?_) (fun c3 => ?_)
        · exact ih _ _ _ _ _ js17 (by have f0 := p_v2; have f1 := i_rg v2; omega) (by have f0 := p_v3; have f1 := i_rg v3; omega) (by have f0 := p_v4; have f1 := i_rg v4; omega) (by have f0 := i_add (v5) ((1 : Int32)); have f1 := p_v5; have f2 := i_rg v5; have f3 : (1 : Int32).toInt = 1 := rfl; have f4 := i_nle c1; have f5 := j_rd hJ 1 1 0 8 rfl; omega) (by have g0 := i_add (v5) ((1 : Int32)); have g1 := p_v2; have g2 := i_rg v2; have g3 := p_v3; have g4 := i_rg v3; have g5 := p_v4; have g6 := i_rg v4; have g7 := p_v5; have g8 := i_rg v5; have g9 : (1 : Int32).toInt = 1 := rfl; have g10 := i_nle c1; have g11 := j_rd hJ 1 1 0 8 rfl; have g12 := hm_29; omega) (by have g0 := i_add (v5) ((1 : Int32)); have g1 := p_v2; have g2 := i_rg v2; have g3 := p_v3; have g4 := i_rg v3; have g5 := p_v4; have g6 := i_rg v4; have g7 := p_v5; have g8 := i_rg v5; have g9 : (1 : Int32).toInt = 1 := rfl; have g10 := i_nle c1; have g11 := j_rd hJ 1 1 0 8 rfl; have g12 := hn; omega)
        · refine oq_n (fun x18 ex18 => ?_)
          exact ih _ _ _ _ _ js17 (by have f0 := i_eq ex18; have f1 := i_and (v5) ((31 : Int32)) (by decide); have f2 := i_sh (v5) (by have f0 := p_v5; have f1 := i_rg v5; have f2 := i_nle c1; have f3 := j_rd hJ 1 1 0 8 rfl; omega); have f3 := i_or (v2) ((1 : Int32) <<< (v5 &&& 31)) (by have f0 := p_v2; have f1 := i_rg v2; omega) (by have f0 := i_and (v5) ((31 : Int32)) (by decide); have f1 := i_sh (v5) (by have f0 := p_v5; have f1 := i_rg v5; have f2 := i_nle c1; have f3 := j_rd hJ 1 1 0 8 rfl; omega); have f2 : (1 : Int32).toInt = 1 := rfl; have f3 := p_v5; have f4 := i_rg v5; have f5 : (31 : Int32).toInt = 31 := rfl; have f6 := i_nle c1; have f7 := j_rd hJ 1 1 0 8 rfl; omega); have f4 := i_rg x18; have f5 := p_v2; have f6 := i_rg v2; have f7 : (1 : Int32).toInt = 1 := rfl; have f8 := p_v5; have f9 := i_rg v5; have f10 : (31 : Int32).toInt = 31 := rfl; have f11 := i_nle c1; have f12 := j_rd hJ 1 1 0 8 rfl; omega) (by have f0 := p_v3; have f1 := i_rg v3; omega) (by have f0 := p_v4; have f1 := i_rg v4; omega) (by have f0 := i_add (v5) ((1 : Int32)); have f1 := p_v5; have f2 := i_rg v5; have f3 : (1 : Int32).toInt = 1 := rfl; have f4 := i_nle c1; have f5 := j_rd hJ 1 1 0 8 rfl; omega) (by have g0 := i_add (v5) ((1 : Int32)); have g1 := i_eq ex18; have g2 := i_and (v5) ((31 : Int32)) (by decide); have g3 := i_sh (v5) (by have f0 := p_v5; have f1 := i_rg v5; have f2 := i_nle c1; have f3 := j_rd hJ 1 1 0 8 rfl; omega); have g4 := i_or (v2) ((1 : Int32) <<< (v5 &&& 31)) (by have f0 := p_v2; have f1 := i_rg v2; omega) (by have f0 := i_and (v5) ((31 : Int32)) (by decide); have f1 := i_sh (v5) (by have f0 := p_v5; have f1 := i_rg v5; have f2 := i_nle c1; have f3 := j_rd hJ 1 1 0 8 rfl; omega); have f2 : (1 : Int32).toInt = 1 := rfl; have f3 := p_v5; have f4 := i_rg v5; have f5 : (31 : Int32).toInt = 31 := rfl; have f6 := i_nle c1; have f7 := j_rd hJ 1 1 0 8 rfl; omega); have g5 := i_rg x18; have g6 := p_v3; have g7 := i_rg v3; have g8 := p_v4; have g9 := i_rg v4; have g10 := p_v5; have g11 := i_rg v5; have g12 : (1 : Int32).toInt = 1 := rfl; have g13 := p_v2; have g14 := i_rg v2; have g15 : (31 : Int32).toInt = 31 := rfl; have g16 := i_nle c1; have g17 := j_rd hJ 1 1 0 8 rfl; have g18 := hm_29; omega) (by have g0 := i_add (v5) ((1 : Int32)); have g1 := i_eq ex18; have g2 := i_and (v5) ((31 : Int32)) (by decide); have g3 := i_sh (v5) (by have f0 := p_v5; have f1 := i_rg v5; have f2 := i_nle c1; have f3 := j_rd hJ 1 1 0 8 rfl; omega); have g4 := i_or (v2) ((1 : Int32) <<< (v5 &&& 31)) (by have f0 := p_v2; have f1 := i_rg v2; omega) (by have f0 := i_and (v5) ((31 : Int32)) (by decide); have f1 := i_sh (v5) (by have f0 := p_v5; have f1 := i_rg v5; have f2 := i_nle c1; have f3 := j_rd hJ 1 1 0 8 rfl; omega); have f2 : (1 : Int32).toInt = 1 := rfl; have f3 := p_v5; have f4 := i_rg v5; have f5 : (31 : Int32).toInt = 31 := rfl; have f6 := i_nle c1; have f7 := j_rd hJ 1 1 0 8 rfl; omega); have g5 := i_rg x18; have g6 := p_v3; have g7 := i_rg v3; have g8 := p_v4; have g9 := i_rg v4; have g10 := p_v5; have g11 := i_rg v5; have g12 : (1 : Int32).toInt = 1 := rfl; have g13 := p_v2; have g14 := i_rg v2; have g15 : (31 : Int32).toInt = 31 := rfl; have g16 := i_nle c1; have g17 := j_rd hJ 1 1 0 8 rfl; have g18 := hn; omega)
      · refine oq_n (fun x19 ex19 => ?_)
        exact ih _ _ _ _ _ js12 (by have f0 := i_eq ex19; have f1 := i_and (v5) ((31 : Int32)) (by decide); have f2 := i_sh (v5) (by have f0 := p_v5; have f1 := i_rg v5; have f2 := i_nle c1; have f3 := j_rd hJ 1 1 0 8 rfl; omega); have f3 := i_or (v2) ((1 : Int32) <<< (v5 &&& 31)) (by have f0 := p_v2; have f1 := i_rg v2; omega) (by have f0 := i_and (v5) ((31 : Int32)) (by decide); have f1 := i_sh (v5) (by have f0 := p_v5; have f1 := i_rg v5; have f2 := i_nle c1; have f3 := j_rd hJ 1 1 0 8 rfl; omega); have f2 : (1 : Int32).toInt = 1 := rfl; have f3 := p_v5; have f4 := i_rg v5; have f5 : (31 : Int32).toInt = 31 := rfl; have f6 := i_nle c1; have f7 := j_rd hJ 1 1 0 8 rfl; omega); have f4 := i_rg x19; have f5 := p_v2; have f6 := i_rg v2; have f7 : (1 : Int32).toInt = 1 := rfl; have f8 := p_v5; have f9 := i_rg v5; have f10 : (31 : Int32).toInt = 31 := rfl; have f11 := i_nle c1; have f12 := j_rd hJ 1 1 0 8 rfl; omega) (by have f0 := p_v3; have f1 := i_rg v3; omega) (by have f0 := p_v4; have f1 := i_rg v4; omega) (by have f0 := i_add (v5) ((1 : Int32)); have f1 := p_v5; have f2 := i_rg v5; have f3 : (1 : Int32).toInt = 1 := rfl; have f4 := i_nle c1; have f5 := j_rd hJ 1 1 0 8 rfl; omega) (by have g0 := i_add (v5) ((1 : Int32)); have g1 := i_eq ex19; have g2 := i_and (v5) ((31 : Int32)) (by decide); have g3 := i_sh (v5) (by have f0 := p_v5; have f1 := i_rg v5; have f2 := i_nle c1; have f3 := j_rd hJ 1 1 0 8 rfl; omega); have g4 := i_or (v2) ((1 : Int32) <<< (v5 &&& 31)) (by have f0 := p_v2; have f1 := i_rg v2; omega) (by have f0 := i_and (v5) ((31 : Int32)) (by decide); have f1 := i_sh (v5) (by have f0 := p_v5; have f1 := i_rg v5; have f2 := i_nle c1; have f3 := j_rd hJ 1 1 0 8 rfl; omega); have f2 : (1 : Int32).toInt = 1 := rfl; have f3 := p_v5; have f4 := i_rg v5; have f5 : (31 : Int32).toInt = 31 := rfl; have f6 := i_nle c1; have f7 := j_rd hJ 1 1 0 8 rfl; omega); have g5 := i_rg x19; have g6 := p_v3; have g7 := i_rg v3; have g8 := p_v4; have g9 := i_rg v4; have g10 := p_v5; have g11 := i_rg v5; have g12 : (1 : Int32).toInt = 1 := rfl; have g13 := p_v2; have g14 := i_rg v2; have g15 : (31 : Int32).toInt = 31 := rfl; have g16 := i_nle c1; have g17 := j_rd hJ 1 1 0 8 rfl; have g18 := hm_29; omega) (by have g0 := i_add (v5) ((1 : Int32)); have g1 := i_eq ex19; have g2 := i_and (v5) ((31 : Int32)) (by decide); have g3 := i_sh (v5) (by have f0 := p_v5; have f1 := i_rg v5; have f2 := i_nle c1; have f3 := j_rd hJ 1 1 0 8 rfl; omega); have g4 := i_or (v2) ((1 : Int32) <<< (v5 &&& 31)) (by have f0 := p_v2; have f1 := i_rg v2; omega) (by have f0 := i_and (v5) ((31 : Int32)) (by decide); have f1 := i_sh (v5) (by have f0 := p_v5; have f1 := i_rg v5; have f2 := i_nle c1; have f3 := j_rd hJ 1 1 0 8 rfl; omega); have f2 : (1 : Int32).toInt = 1 := rfl; have f3 := p_v5; have f4 := i_rg v5; have f5 : (31 : Int32).toInt = 31 := rfl; have f6 := i_nle c1; have f7 := j_rd hJ 1 1 0 8 rfl; omega); have g5 := i_rg x19; have g6 := p_v3; have g7 := i_rg v3; have g8 := p_v4; have g9 := i_rg v4; have g10 := p_v5; have g11 := i_rg v5; have g12 : (1 : Int32).toInt = 1 := rfl; have g13 := p_v2; have g14 := i_rg v2; have g15 : (31 : Int32).toInt = 31 := rfl; have g16 := i_nle c1; have g17 := j_rd hJ 1 1 0 8 rfl; have g18 := hn; omega)
theorem h_X12_chain_b29 {s0 : Sg} (k_20 : Int32 → Int32 → Sg → Option (Int32 × Sg)) (m_20 : Nat) (hk_20 : ∀ (v2 : Int32) (v3 : Int32) (s : Sg), JM 4194304 s0 s → 0 ≤ v2.toInt ∧ v2.toInt ≤ 511 → 0 ≤ v3.toInt ∧ v3.toInt ≤ 8 → 8 - v3.toInt < (m_20 : Int) → OQ (k_20 v2 v3 s) (fun r9 s9 => JM 4194304 s0 s9 ∧ True ∧ (r9 = 0 → True) ∧ (¬ r9 = 0 → True))) (n : Nat) : ∀ (v2 : Int32) (v3 : Int32) (v4 : Int32) (s : Sg), JM 4194304 s0 s → 0 ≤ v2.toInt ∧ v2.toInt ≤ 511 → 0 ≤ v3.toInt ∧ v3.toInt ≤ 7 → 0 ≤ v4.toInt ∧ v4.toInt ≤ 8 → 8 - v3.toInt < (m_20 : Int) + 1 → 8 - v4.toInt < (n : Int) → OQ (f_X12_chain_b29 k_20 n v2 v3 v4 s) (fun r9 s9 => JM 4194304 s0 s9 ∧ True ∧ (r9 = 0 → True) ∧ (¬ r9 = 0 → True)) := by
  induction n with
  | zero => intro v2 v3 v4 s hJ p_v2 p_v3 p_v4 hm_20 hn; exact False.elim (by have g0 := hn; have g1 := p_v2; have g2 := p_v3; have g3 := p_v4; have g4 := i_rg v2; have g5 := i_rg v3; have g6 := i_rg v4; omega)
  | succ n ih =>
    intro v2 v3 v4 s hJ p_v2 p_v3 p_v4 hm_20 hn
    unfold f_X12_chain_b29
    refine oq_if (fun c1 => ?_) (fun c1 => ?_)
    · exact hk_20 _ _ _ hJ (by have f0 := p_v2; have f1 := i_rg v2; omega) (by have f0 := i_add (v3) ((1 : Int32)); have f1 := p_v3; have f2 := i_rg v3; have f3 : (1 : Int32).toInt = 1 := rfl; omega) (by have g0 := i_add (v3) ((1 : Int32)); have g1 := p_v2; have g2 := i_rg v2; have g3 := p_v3; have g4 := i_rg v3; have g5 : (1 : Int32).toInt = 1 := rfl; have g6 := hm_20; omega)
    · refine oq_if (fun c2 => ?_) (fun c2 => ?_)
      · exact ih _ _ _ _ hJ (by have f0 := p_v2; have f1 := i_rg v2; have f2 := i_eq c2; have f3 := i_and (v4) ((31 : Int32)) (by decide); have f4 := i_and (v2 >>> (v4 &&& 31)) ((1 : Int32)) (by decide); have f5 := p_v4; have f6 := i_rg v4; have f7 : (31 : Int32).toInt = 31 := rfl; have f8 : (1 : Int32).toInt = 1 := rfl; have f9 : (0 : Int32).toInt = 0 := rfl; have f10 := i_nle c1; have f11 := j_rd hJ 1 1 0 8 rfl; omega) (by have f0 := p_v3; have f1 := i_rg v3; omega) (by have f0 := i_add (v4) ((1 : Int32)); have f1 := p_v4; have f2 := i_rg v4; have f3 : (1 : Int32).toInt = 1 := rfl; have f4 := i_nle c1; have f5 := i_eq c2; have f6 := i_and (v4) ((31 : Int32)) (by decide); have f7 := i_and (v2 >>> (v4 &&& 31)) ((1 : Int32)) (by decide); have f8 := j_rd hJ 1 1 0 8 rfl; have f9 := p_v2; have f10 := i_rg v2; have f11 : (31 : Int32).toInt = 31 := rfl; have f12 : (0 : Int32).toInt = 0 := rfl; omega) (by have g0 := i_add (v4) ((1 : Int32)); have g1 := p_v2; have g2 := i_rg v2; have g3 := p_v3; have g4 := i_rg v3; have g5 := p_v4; have g6 := i_rg v4; have g7 : (1 : Int32).toInt = 1 := rfl; have g8 := i_nle c1; have g9 := i_eq c2; have g10 := i_and (v4) ((31 : Int32)) (by decide); have g11 := i_and (v2 >>> (v4 &&& 31)) ((1 : Int32)) (by decide); have g12 := j_rd hJ 1 1 0 8 rfl; have g13 : (31 : Int32).toInt = 31 := rfl; have g14 : (0 : Int32).toInt = 0 := rfl; have g15 := hm_20; omega) (by have g0 := i_add (v4) ((1 : Int32)); have g1 := p_v2; have g2 := i_rg v2; have g3 := p_v3; have g4 := i_rg v3; have g5 := p_v4; have g6 := i_rg v4; have g7 : (1 : Int32).toInt = 1 := rfl; have g8 := i_nle c1; have g9 := i_eq c2; have g10 := i_and (v4) ((31 : Int32)) (by decide); have g11 := i_and (v2 >>> (v4 &&& 31)) ((1 : Int32)) (by decide); have g12 := j_rd hJ 1 1 0 8 rfl; have g13 : (31 : Int32).toInt = 31 := rfl; have g14 : (0 : Int32).toInt = 0 := rfl; have g15 := hn; omega)
      · exact h_X12_chain_b55 _ n ih BIG _ _ _ _ _ hJ (by have f0 := p_v2; have f1 := i_rg v2; have f2 := i_ne c2; have f3 := i_and (v4) ((31 : Int32)) (by decide); have f4 := i_and (v2 >>> (v4 &&& 31)) ((1 : Int32)) (by decide); have f5 := p_v4; have f6 := i_rg v4; have f7 : (31 : Int32).toInt = 31 := rfl; have f8 : (1 : Int32).toInt = 1 := rfl; have f9 : (0 : Int32).toInt = 0 := rfl; have f10 := i_nle c1; have f11 := j_rd hJ 1 1 0 8 rfl; omega) (by have f0 := p_v3; have f1 := i_rg v3; omega) (by have f0 := p_v4; have f1 := i_rg v4; have f2 := i_nle c1; have f3 := i_ne c2; have f4 := i_and (v4) ((31 : Int32)) (by decide); have f5 := i_and (v2 >>> (v4 &&& 31)) ((1 : Int32)) (by decide); have f6 := j_rd hJ 1 1 0 8 rfl; have f7 := p_v2; have f8 := i_rg v2; have f9 : (31 : Int32).toInt = 31 := rfl; have f10 : (1 : Int32).toInt = 1 := rfl; have f11 : (0 : Int32).toInt = 0 := rfl; omega) (by have f0 : (0 : Int32).toInt = 0 := rfl; omega) (by have g0 := p_v2; have g1 := i_rg v2; have g2 := p_v3; have g3 := i_rg v3; have g4 := p_v4; have g5 := i_rg v4; have g6 : (0 : Int32).toInt = 0 := rfl; have g7 := i_nle c1; have g8 := i_ne c2; have g9 := i_and (v4) ((31 : Int32)) (by decide); have g10 := i_and (v2 >>> (v4 &&& 31)) ((1 : Int32)) (by decide); have g11 := j_rd hJ 1 1 0 8 rfl; have g12 : (31 : Int32).toInt = 31 := rfl; have g13 : (1 : Int32).toInt = 1 := rfl; have g14 := hn; omega) (by have g0 := p_v2; have g1 := i_rg v2; have g2 := p_v3; have g3 := i_rg v3; have g4 := p_v4; have g5 := i_rg v4; have g6 : (0 : Int32).toInt = 0 := rfl; have g7 := i_nle c1; have g8 := i_ne c2; have g9 := i_and (v4) ((31 : Int32)) (by decide); have g10 := i_and (v2 >>> (v4 &&& 31)) ((1 : Int32)) (by decide); have g11 := j_rd hJ 1 1 0 8 rfl; have g12 : (31 : Int32).toInt = 31 := rfl; have g13 : (1 : Int32).toInt = 1 := rfl; have g14 : BIG = 4294967296 := rfl; omega)
theorem h_X12_chain_b20 {s0 : Sg} (n : Nat) : ∀ (v2 : Int32) (v3 : Int32) (s : Sg), JM 4194304 s0 s → 0 ≤ v2.toInt ∧ v2.toInt ≤ 511 → 0 ≤ v3.toInt ∧ v3.toInt ≤ 8 → 8 - v3.toInt < (n : Int) → OQ (f_X12_chain_b20 n v2 v3 s) (fun r9 s9 => JM 4194304 s0 s9 ∧ True ∧ (r9 = 0 → True) ∧ (¬ r9 = 0 → True)) := by
  induction n with
  | zero => intro v2 v3 s hJ p_v2 p_v3 hn; exact False.elim (by have g0 := hn; have g1 := p_v2; have g2 := p_v3; have g3 := i_rg v2; have g4 := i_rg v3; omega)
  | succ n ih =>
    intro v2 v3 s hJ p_v2 p_v3 hn
    unfold f_X12_chain_b20
    refine oq_if (fun c1 => ?_) (fun c1 => ?_)
    · refine oq_b (h_X12_gives _ hJ.1) (fun r6 s7 hs7 => ?_)
      have js7 : JM 4194304 s0 s7 := j_call hJ hs7.1 rfl
      exact ⟨js7, trivial, fun _ => trivial, fun _ => trivial⟩
    · exact h_X12_chain_b29 _ n ih BIG _ _ _ _ hJ (by have f0 := p_v2; have f1 := i_rg v2; omega) (by have f0 := p_v3; have f1 := i_rg v3; have f2 := i_nle c1; have f3 : (8 : Int32).toInt = 8 := rfl; omega) (by have f0 : (0 : Int32).toInt = 0 := rfl; omega) (by have g0 := p_v2; have g1 := i_rg v2; have g2 := p_v3; have g3 := i_rg v3; have g4 : (0 : Int32).toInt = 0 := rfl; have g5 := i_nle c1; have g6 : (8 : Int32).toInt = 8 := rfl; have g7 := hn; omega) (by have g0 := p_v2; have g1 := i_rg v2; have g2 := p_v3; have g3 := i_rg v3; have g4 : (0 : Int32).toInt = 0 := rfl; have g5 := i_nle c1; have g6 : (8 : Int32).toInt = 8 := rfl; have g7 : BIG = 4294967296 := rfl; omega)
theorem h_X12_chain (a1 : Int32) {s : Sg} (hR : Rg rM s) : OQ (f_X12_chain a1 s) (fun r9 s9 => JM 4194304 s s9 ∧ True ∧ (r9 = 0 → True) ∧ (¬ r9 = 0 → True)) := by
  have hJ : JM 4194304 s s := j_refl hR
  unfold f_X12_chain
  refine oq_b (h_X12_isQuarrel _ hJ.1) (fun r1 s2 hs2 => ?_)
  have js2 : JM 4194304 s s2 := j_call hJ hs2.1 rfl
  refine oq_if (fun c1 => ?_) (fun c1 => ?_)
  · refine oq_b (h_X12_refuse _ js2.1 (by have f0 : (1 : Int32).toInt = 1 := rfl; omega)) (fun r3 s4 hs4 => ?_)
    have js4 : JM 4194304 s s4 := j_call js2 hs4.1 rfl
    exact ⟨js4, trivial, fun w9 => False.elim (by have f0 := hs4.2.1; have f1 := i_rg r3; have f2 := i_eq w9; have f3 : (0 : Int32).toInt = 0 := rfl; omega), fun _ => trivial⟩
  · refine oq_n (fun x5 ex5 => ?_)
    exact h_X12_chain_b20 BIG _ _ _ js2 (by have f0 := i_eq ex5; have f1 := i_and (a1) ((31 : Int32)) (by decide); have f2 := i_sh (a1) (by have f0 := i_rg a1; have f1 := (hs2.2.2.2 c1).1; have f2 := (hs2.2.2.2 c1).2; have f3 : (0 : Int32).toInt = 0 := rfl; have f4 : (7 : Int32).toInt = 7 := rfl; omega); have f3 := i_rg x5; have f4 : (1 : Int32).toInt = 1 := rfl; have f5 := i_rg a1; have f6 : (31 : Int32).toInt = 31 := rfl; have f7 := (hs2.2.2.2 c1).1; have f8 := (hs2.2.2.2 c1).2; have f9 : (0 : Int32).toInt = 0 := rfl; have f10 : (7 : Int32).toInt = 7 := rfl; omega) (by have f0 : (0 : Int32).toInt = 0 := rfl; omega) (by have g0 := i_eq ex5; have g1 := i_and (a1) ((31 : Int32)) (by decide); have g2 := i_sh (a1) (by have f0 := i_rg a1; have f1 := (hs2.2.2.2 c1).1; have f2 := (hs2.2.2.2 c1).2; have f3 : (0 : Int32).toInt = 0 := rfl; have f4 : (7 : Int32).toInt = 7 := rfl; omega); have g3 := i_rg x5; have g4 : (0 : Int32).toInt = 0 := rfl; have g5 : (1 : Int32).toInt = 1 := rfl; have g6 := i_rg a1; have g7 : (31 : Int32).toInt = 31 := rfl; have g8 := (hs2.2.2.2 c1).1; have g9 := (hs2.2.2.2 c1).2; have g10 : (7 : Int32).toInt = 7 := rfl; have g11 : BIG = 4294967296 := rfl; omega)
theorem h_X12_keepsAll_b2 {s0 : Sg} (n : Nat) : ∀ (v1 : Int32) (s : Sg), JM 10141204801825835211973625643008 s0 s → 0 ≤ v1.toInt ∧ v1.toInt ≤ 110 → (v1.toInt ≤ 11 ∨ s.1 1 2411 = s0.1 1 11) → 110 - v1.toInt < (n : Int) → OQ (f_X12_keepsAll_b2 n v1 s) (fun _ s9 => JM 10141204801825835211973625643008 s0 s9 ∧ ((s9.1 1 2411).toInt = (s0.1 1 11).toInt)) := by
  induction n with
  | zero => intro v1 s _ h1 _ hn; exact False.elim (by omega)
  | succ n ih =>
    intro v1 s hJ h1 hx hn
    unfold f_X12_keepsAll_b2
    have e1 : (1 : Int32).toInt = 1 := rfl
    have e110 : (110 : Int32).toInt = 110 := rfl
    have e24 : (2400 : Int32).toInt = 2400 := rfl
    have a1 := i_add v1 1
    have a2 := i_add 2400 v1
    have c1 := cl_nat v1
    have c2 := cl_nat (2400 + v1)
    refine oq_if (fun c => ?_) (fun c => ?_)
    · have c' := i_le c
      exact ⟨hJ, by rcases hx with h | h; exact absurd h (by omega); rw [h]⟩
    · have c' := i_nle c
      refine oq_c (inr_of ⟨by omega, by omega⟩) (oq_c (inr_of ⟨by omega, by omega⟩) ?_)
      refine oq_n (fun s3 e3 => ?_)
      have j3 : JM 10141204801825835211973625643008 s0 s3 := by rw [e3]; exact j_wm hJ (rz_cp hJ _ _ (by omega)) (mk_103 (by omega) rfl)
      refine ih (v1 + 1) s3 j3 (by omega) ?_ (by omega)
      by_cases q : v1.toInt = 11
      · refine Or.inr ?_
        have d1 : (2400 + v1).toNatClampNeg = 2411 := by omega
        have d2 : v1.toNatClampNeg = 11 := by omega
        rw [e3, d1, d2, pI_1, if_pos ⟨rfl, rfl⟩]
        exact (hJ.2 1 11 rfl).1
      · rcases hx with h | h
        · exact Or.inl (by omega)
        · refine Or.inr ?_
          rw [e3, pI_1, if_neg (fun g => absurd g.2 (by omega))]
          exact h
theorem h_X12_keepsAll  {s : Sg} (hR : Rg rM s) : OQ (f_X12_keepsAll  s) (fun _ s9 => JM 10141204801825835211973625643008 s s9 ∧ ((s9.1 1 2411).toInt = (s.1 1 11).toInt)) := by
  unfold f_X12_keepsAll
  exact h_X12_keepsAll_b2 BIG 0 s (j_refl hR) (by decide) (Or.inl (by decide)) (by decide)
theorem h_X12_takesBack_b2 {s0 : Sg} (n : Nat) : ∀ (v1 : Int32) (s : Sg), JM 9443580044234683580418 s0 s → 0 ≤ v1.toInt ∧ v1.toInt ≤ 110 → (v1.toInt ≤ 11 ∨ s.1 1 11 = s0.1 1 2411) → 110 - v1.toInt < (n : Int) → OQ (f_X12_takesBack_b2 n v1 s) (fun _ s9 => JM 9443580044234683580418 s0 s9 ∧ ((s9.1 1 11).toInt = (s0.1 1 2411).toInt)) := by
  induction n with
  | zero => intro v1 s _ h1 _ hn; exact False.elim (by omega)
  | succ n ih =>
    intro v1 s hJ h1 hx hn
    unfold f_X12_takesBack_b2
    have e1 : (1 : Int32).toInt = 1 := rfl
    have e110 : (110 : Int32).toInt = 110 := rfl
    have e24 : (2400 : Int32).toInt = 2400 := rfl
    have a1 := i_add v1 1
    have a2 := i_add 2400 v1
    have c1 := cl_nat v1
    have c2 := cl_nat (2400 + v1)
    refine oq_if (fun c => ?_) (fun c => ?_)
    · have c' := i_le c
      exact ⟨hJ, by rcases hx with h | h; exact absurd h (by omega); rw [h]⟩
    · have c' := i_nle c
      refine oq_c (inr_of ⟨by omega, by omega⟩) (oq_c (inr_of ⟨by omega, by omega⟩) ?_)
      refine oq_n (fun s3 e3 => ?_)
      have j3 : JM 9443580044234683580418 s0 s3 := by rw [e3]; exact j_wm hJ (rz_cp hJ _ _ (by omega)) (mk_t rfl (by omega))
      refine ih (v1 + 1) s3 j3 (by omega) ?_ (by omega)
      by_cases q : v1.toInt = 11
      · refine Or.inr ?_
        have d1 : v1.toNatClampNeg = 11 := by omega
        have d2 : (2400 + v1).toNatClampNeg = 2411 := by omega
        rw [e3, d1, d2, pI_1, if_pos ⟨rfl, rfl⟩]
        exact (hJ.2 1 2411 rfl).1
      · rcases hx with h | h
        · exact Or.inl (by omega)
        · refine Or.inr ?_
          rw [e3, pI_1, if_neg (fun g => absurd g.2 (by omega))]
          exact h
theorem h_X12_takesBack  {s : Sg} (hR : Rg rM s) : OQ (f_X12_takesBack  s) (fun _ s9 => JM 9443580044234683580418 s s9 ∧ ((s9.1 1 11).toInt = (s.1 1 2411).toInt)) := by
  unfold f_X12_takesBack
  exact h_X12_takesBack_b2 BIG 0 s (j_refl hR) (by decide) (Or.inl (by decide)) (by decide)
theorem h_X12_forecast_b51 {s0 : Sg} (n : Nat) : ∀ (v1 : Int32) (v2 : Int32) (v3 : Int32) (v5 : Int32) (s : Sg), JM 10141204811269415361761429684226 s0 s → 0 ≤ v1.toInt ∧ v1.toInt ≤ 7 → 0 ≤ v3.toInt ∧ v3.toInt ≤ 2 → 0 ≤ v5.toInt ∧ v5.toInt ≤ 2147483647 → ((s.1 1 2411).toInt = (s0.1 1 11).toInt) → 2147483647 - v5.toInt < (n : Int) → OQ (f_X12_forecast_b51 n v1 v2 v3 v5 s) (fun r9 s9 => JM 10141204811269415361761429684226 s0 s9 ∧ (True ∧ ((s9.1 1 11).toInt = (s0.1 1 11).toInt)) ∧ (r9 = 0 → True) ∧ (¬ r9 = 0 → True)) := by
  induction n with
  | zero => intro v1 v2 v3 v5 s hJ p_v1 p_v3 p_v5 x_1 hn; exact False.elim (by have g0 := hn; have g1 := p_v1; have g2 := p_v3; have g3 := p_v5; have g4 := i_rg v1; have g5 := i_rg v2; have g6 := i_rg v3; have g7 := i_rg v5; have g8 := x_1; omega)
  | succ n ih =>
    intro v1 v2 v3 v5 s hJ p_v1 p_v3 p_v5 x_1 hn
    unfold f_X12_forecast_b51
    refine oq_if (fun c1 => ?_) (fun c1 => ?_)
    · refine oq_b (h_X12_houseRow _ hJ.1 (by have f0 := p_v1; have f1 := i_rg v1; omega)) (fun r5 s6 hs6 => ?_)
      have js6 : JM 10141204811269415361761429684226 s0 s6 := j_call hJ hs6.1 rfl
      refine oq_c (inr_of (by have f0 := i_add (r5) (v3); have f1 := hs6.2.1; have f2 := i_rg r5; have f3 := hs6.2.1.2; have f4 := p_v3; have f5 := i_rg v3; have f6 := p_v1; have f7 := i_rg v1; omega)) ?_
      refine oq_n (fun x8 ex8 => ?_)
      refine oq_b (h_X12_takesBack  js6.1) (fun u2 s10 hs10 => ?_)
      have js10 : JM 10141204811269415361761429684226 s0 s10 := j_call js6 hs10.1 rfl
      refine oq_b (h_X12_gives _ js10.1) (fun r11 s12 hs12 => ?_)
      have js12 : JM 10141204811269415361761429684226 s0 s12 := j_call js10 hs12.1 rfl
      exact ⟨js12, ⟨trivial, (by have g0 := i_rg r11; have g1 := j_rd js12 1 11 (-1) 60 rfl; have g2 : (s12.1 1 11).toInt = (s10.1 1 11).toInt := j_fr hs12.1 1 11 71 rfl rfl; have g3 := hs10.2; have g4 := j_rd js10 1 11 (-1) 60 rfl; have g5 := j_rd js6 1 2411 (-1) 60 rfl; have g6 : (s6.1 1 2411).toInt = (s.1 1 2411).toInt := j_fr hs6.1 1 2411 103 rfl rfl; have g7 := j_rd hJ 1 2411 (-1) 60 rfl; have g8 := x_1; omega)⟩, fun _ => trivial, fun _ => trivial⟩
    · refine oq_b (h_X12_nightGoes  hJ.1) (fun u3 s14 hs14 => ?_)
      have js14 : JM 10141204811269415361761429684226 s0 s14 := j_call hJ hs14.1 rfl
      exact ih _ _ _ _ _ js14 (by have f0 := p_v1; have f1 := i_rg v1; omega) (by have f0 := p_v3; have f1 := i_rg v3; omega) (by have f0 := i_add (v5) ((1 : Int32)); have f1 := p_v5; have f2 := i_rg v5; have f3 : (1 : Int32).toInt = 1 := rfl; have f4 := i_nle c1; have f5 := i_rg v2; omega) (by have g0 := j_rd js14 1 2411 (-1) 60 rfl; have g1 : (s14.1 1 2411).toInt = (s.1 1 2411).toInt := j_fr hs14.1 1 2411 103 rfl rfl; have g2 := j_rd hJ 1 2411 (-1) 60 rfl; have g3 := x_1; omega) (by have g0 := i_add (v5) ((1 : Int32)); have g1 := p_v1; have g2 := i_rg v1; have g3 := i_rg v2; have g4 := p_v3; have g5 := i_rg v3; have g6 := p_v5; have g7 := i_rg v5; have g8 : (1 : Int32).toInt = 1 := rfl; have g9 := i_nle c1; have g10 := hn; omega)
theorem h_X12_forecast_b30 {s0 : Sg} (v1 : Int32) (v2 : Int32) (v3 : Int32) (t0 : Int32) (s : Sg) (hJ : JM 10141204811269415361761429684226 s0 s) (p_t0 : 0 ≤ t0.toInt ∧ t0.toInt ≤ 7) (x_1 : ((s.1 1 11).toInt = (s0.1 1 11).toInt)) (x_2 : (t0.toInt = 1 ∨ (0 ≤ v1.toInt ∧ v1.toInt ≤ 7 ∧ 0 ≤ v3.toInt ∧ v3.toInt ≤ 2))) : OQ (f_X12_forecast_b30 v1 v2 v3 t0 s) (fun r9 s9 => JM 10141204811269415361761429684226 s0 s9 ∧ (True ∧ ((s9.1 1 11).toInt = (s0.1 1 11).toInt)) ∧ (r9 = 0 → True) ∧ (¬ r9 = 0 → True)) := by
  unfold f_X12_forecast_b30
  refine oq_if (fun c1 => ?_) (fun c1 => ?_)
  · refine oq_b (h_X12_keepsAll  hJ.1) (fun u2 s4 hs4 => ?_)
    have js4 : JM 10141204811269415361761429684226 s0 s4 := j_call hJ hs4.1 rfl
    exact h_X12_forecast_b51 BIG _ _ _ _ _ js4 (by have f0 := i_rg v1; have f1 := x_2; have f2 := i_le c1; have f3 := p_t0; have f4 := i_rg t0; have f5 := i_rg v3; have f6 : (0 : Int32).toInt = 0 := rfl; omega) (by have f0 := i_rg v3; have f1 := x_2; have f2 := i_le c1; have f3 := p_t0; have f4 := i_rg t0; have f5 := i_rg v1; have f6 : (0 : Int32).toInt = 0 := rfl; omega) (by have f0 : (0 : Int32).toInt = 0 := rfl; omega) (by have g0 := hs4.2; have g1 := j_rd js4 1 2411 (-1) 60 rfl; have g2 := j_rd hJ 1 11 (-1) 60 rfl; have g3 := x_1; omega) (by have g0 := i_rg v1; have g1 := i_rg v2; have g2 := i_rg v3; have g3 : (0 : Int32).toInt = 0 := rfl; have g4 := x_2; have g5 := i_le c1; have g6 := p_t0; have g7 := i_rg t0; have g8 : BIG = 4294967296 := rfl; omega)
  · refine oq_b (h_X12_refuse _ hJ.1 (by have f0 := p_t0; have f1 := i_rg t0; have f2 := x_2; have f3 := i_nle c1; have f4 := i_rg v1; have f5 := i_rg v3; have f6 : (0 : Int32).toInt = 0 := rfl; omega)) (fun r15 s16 hs16 => ?_)
    have js16 : JM 10141204811269415361761429684226 s0 s16 := j_call hJ hs16.1 rfl
    exact ⟨js16, ⟨trivial, (by have g0 := hs16.2.1; have g1 := i_rg r15; have g2 := j_rd js16 1 11 (-1) 60 rfl; have g3 : (s16.1 1 11).toInt = (s.1 1 11).toInt := j_fr hs16.1 1 11 71 rfl rfl; have g4 := j_rd hJ 1 11 (-1) 60 rfl; have g5 := x_1; omega)⟩, fun w9 => False.elim (by have f0 := hs16.2.1; have f1 := i_rg r15; have f2 := i_eq w9; have f3 : (0 : Int32).toInt = 0 := rfl; omega), fun _ => trivial⟩
theorem h_X12_forecast_b21 {s0 : Sg} (v1 : Int32) (v2 : Int32) (v3 : Int32) (s : Sg) (hJ : JM 10141204811269415361761429684226 s0 s) (x_1 : ((s.1 1 11).toInt = (s0.1 1 11).toInt)) : OQ (f_X12_forecast_b21 v1 v2 v3 s) (fun r9 s9 => JM 10141204811269415361761429684226 s0 s9 ∧ (True ∧ ((s9.1 1 11).toInt = (s0.1 1 11).toInt)) ∧ (r9 = 0 → True) ∧ (¬ r9 = 0 → True)) := by
  unfold f_X12_forecast_b21
  exact h_X12_forecast_b30 _ _ _ _ _ hJ (by have f0 : (1 : Int32).toInt = 1 := rfl; omega) (by have g0 := j_rd hJ 1 11 (-1) 60 rfl; have g1 := x_1; omega) (by have g0 : (1 : Int32).toInt = 1 := rfl; have g1 := i_rg v1; have g2 := i_rg v3; omega)
theorem h_X12_forecast (a1 : Int32) (a2 : Int32) (a3 : Int32) {s : Sg} (hR : Rg rM s) : OQ (f_X12_forecast a1 a2 a3 s) (fun r9 s9 => JM 10141204811269415361761429684226 s s9 ∧ (True ∧ ((s9.1 1 11).toInt = (s.1 1 11).toInt)) ∧ (r9 = 0 → True) ∧ (¬ r9 = 0 → True)) := by
  have hJ : JM 10141204811269415361761429684226 s s := j_refl hR
  unfold f_X12_forecast
  refine oq_b (h_X12_isFrom _ _ _ hJ.1) (fun r1 s2 hs2 => ?_)
  have js2 : JM 10141204811269415361761429684226 s s2 := j_call hJ hs2.1 rfl
  refine oq_if (fun c1 => ?_) (fun c1 => ?_)
  · exact h_X12_forecast_b21 _ _ _ _ js2 (by have g0 := j_rd js2 1 11 (-1) 60 rfl; have g1 : (s2.1 1 11).toInt = (s.1 1 11).toInt := j_fr hs2.1 1 11 71 rfl rfl; have g2 := j_rd hJ 1 11 (-1) 60 rfl; omega)
  · refine oq_if (fun c2 => ?_) (fun c2 => ?_)
    · exact h_X12_forecast_b21 _ _ _ _ js2 (by have g0 := j_rd js2 1 11 (-1) 60 rfl; have g1 : (s2.1 1 11).toInt = (s.1 1 11).toInt := j_fr hs2.1 1 11 71 rfl rfl; have g2 := j_rd hJ 1 11 (-1) 60 rfl; omega)
    · refine oq_if (fun c3 => ?_) (fun c3 => ?_)
      · refine oq_b (h_X12_wrongStep _ js2.1) (fun r17 s18 hs18 => ?_)
        have js18 : JM 10141204811269415361761429684226 s s18 := j_call js2 hs18.1 rfl
        exact h_X12_forecast_b30 _ _ _ _ _ js18 (by have f0 := hs18.2.1; have f1 := i_rg r17; have f2 := hs18.2.1.2; have f3 := i_rg a1; omega) (by have g0 := j_rd js18 1 11 (-1) 60 rfl; have g1 : (s18.1 1 11).toInt = (s2.1 1 11).toInt := j_fr hs18.1 1 11 71 rfl rfl; have g2 := j_rd hJ 1 11 (-1) 60 rfl; have g3 := j_rd js2 1 11 (-1) 60 rfl; have g4 : (s2.1 1 11).toInt = (s.1 1 11).toInt := j_fr hs2.1 1 11 71 rfl rfl; omega) (by have g0 := hs18.2.1; have g1 := i_rg r17; have g2 := hs18.2.1.2; have g3 := i_rg a1; have g4 := i_rg a3; have g5 := i_nlt c2; have g6 := i_le c3; have g7 : (0 : Int32).toInt = 0 := rfl; have g8 : (2 : Int32).toInt = 2 := rfl; omega)
      · exact h_X12_forecast_b21 _ _ _ _ js2 (by have g0 := j_rd js2 1 11 (-1) 60 rfl; have g1 : (s2.1 1 11).toInt = (s.1 1 11).toInt := j_fr hs2.1 1 11 71 rfl rfl; have g2 := j_rd hJ 1 11 (-1) 60 rfl; omega)
theorem h_X12_soonest_b50 {s0 : Sg} (v2 : Int32) (s : Sg) (hJ : JM 10141204811269415361761429684226 s0 s) (p_v2 : 0 ≤ v2.toInt ∧ v2.toInt ≤ 61) (x_1 : ((s.1 1 2411).toInt = (s0.1 1 11).toInt)) : OQ (f_X12_soonest_b50 v2 s) (fun r9 s9 => JM 10141204811269415361761429684226 s0 s9 ∧ (True ∧ ((s9.1 1 11).toInt = (s0.1 1 11).toInt)) ∧ (r9 = 0 → True) ∧ (¬ r9 = 0 → True)) := by
  unfold f_X12_soonest_b50
  refine oq_b (h_X12_takesBack  hJ.1) (fun u1 s8 hs8 => ?_)
  have js8 : JM 10141204811269415361761429684226 s0 s8 := j_call hJ hs8.1 rfl
  refine oq_if (fun c2 => ?_) (fun c2 => ?_)
  · refine oq_b (h_X12_refuse _ js8.1 (by have f0 : (6 : Int32).toInt = 6 := rfl; omega)) (fun r9 s10 hs10 => ?_)
    have js10 : JM 10141204811269415361761429684226 s0 s10 := j_call js8 hs10.1 rfl
    exact ⟨js10, ⟨trivial, (by have g0 := hs10.2.1; have g1 := i_rg r9; have g2 := j_rd js10 1 11 (-1) 60 rfl; have g3 : (s10.1 1 11).toInt = (s8.1 1 11).toInt := j_fr hs10.1 1 11 71 rfl rfl; have g4 := hs8.2; have g5 := j_rd js8 1 11 (-1) 60 rfl; have g6 := j_rd hJ 1 2411 (-1) 60 rfl; have g7 := x_1; omega)⟩, fun w9 => False.elim (by have f0 := hs10.2.1; have f1 := i_rg r9; have f2 := i_eq w9; have f3 : (0 : Int32).toInt = 0 := rfl; omega), fun _ => trivial⟩
  · refine oq_b (h_X12_gives _ js8.1) (fun r11 s12 hs12 => ?_)
    have js12 : JM 10141204811269415361761429684226 s0 s12 := j_call js8 hs12.1 rfl
    exact ⟨js12, ⟨trivial, (by have g0 := i_rg r11; have g1 := j_rd js12 1 11 (-1) 60 rfl; have g2 : (s12.1 1 11).toInt = (s8.1 1 11).toInt := j_fr hs12.1 1 11 71 rfl rfl; have g3 := hs8.2; have g4 := j_rd js8 1 11 (-1) 60 rfl; have g5 := j_rd hJ 1 2411 (-1) 60 rfl; have g6 := x_1; omega)⟩, fun _ => trivial, fun _ => trivial⟩
theorem h_X12_soonest_b20 {s0 : Sg} (n : Nat) : ∀ (v1 : Int32) (v2 : Int32) (s : Sg), JM 10141204811269415361761429684226 s0 s → 0 ≤ v1.toInt ∧ v1.toInt ≤ 7 → 0 ≤ v2.toInt ∧ v2.toInt ≤ 61 → ((s.1 1 2411).toInt = (s0.1 1 11).toInt) → 61 - v2.toInt < (n : Int) → OQ (f_X12_soonest_b20 n v1 v2 s) (fun r9 s9 => JM 10141204811269415361761429684226 s0 s9 ∧ (True ∧ ((s9.1 1 11).toInt = (s0.1 1 11).toInt)) ∧ (r9 = 0 → True) ∧ (¬ r9 = 0 → True)) := by
  induction n with
  | zero => intro v1 v2 s hJ p_v1 p_v2 x_1 hn; exact False.elim (by have g0 := hn; have g1 := p_v1; have g2 := p_v2; have g3 := i_rg v1; have g4 := i_rg v2; have g5 := x_1; omega)
  | succ n ih =>
    intro v1 v2 s hJ p_v1 p_v2 x_1 hn
    unfold f_X12_soonest_b20
    refine oq_if (fun c1 => ?_) (fun c1 => ?_)
    · exact h_X12_soonest_b50 _ _ hJ (by have f0 := p_v2; have f1 := i_rg v2; have f2 := i_le c1; have f3 : (61 : Int32).toInt = 61 := rfl; omega) (by have g0 := j_rd hJ 1 2411 (-1) 60 rfl; have g1 := x_1; omega)
    · refine oq_b (h_X12_quarrelRow _ hJ.1 (by have f0 := p_v1; have f1 := i_rg v1; omega)) (fun r13 s14 hs14 => ?_)
      have js14 : JM 10141204811269415361761429684226 s0 s14 := j_call hJ hs14.1 rfl
      refine oq_c (inr_of (by have f0 := i_add (r13) ((3 : Int32)); have f1 := hs14.2.1; have f2 := i_rg r13; have f3 := hs14.2.1.2; have f4 : (3 : Int32).toInt = 3 := rfl; have f5 := p_v1; have f6 := i_rg v1; omega)) ?_
      refine oq_if (fun c2 => ?_) (fun c2 => ?_)
      · refine oq_b (h_X12_nightGoes  js14.1) (fun u3 s17 hs17 => ?_)
        have js17 : JM 10141204811269415361761429684226 s0 s17 := j_call js14 hs17.1 rfl
        exact ih _ _ _ js17 (by have f0 := p_v1; have f1 := i_rg v1; omega) (by have f0 := i_add (v2) ((1 : Int32)); have f1 := p_v2; have f2 := i_rg v2; have f3 : (1 : Int32).toInt = 1 := rfl; have f4 := i_nle c1; have f5 : (61 : Int32).toInt = 61 := rfl; omega) (by have g0 := j_rd js17 1 2411 (-1) 60 rfl; have g1 : (s17.1 1 2411).toInt = (s14.1 1 2411).toInt := j_fr hs17.1 1 2411 103 rfl rfl; have g2 := j_rd js14 1 2411 (-1) 60 rfl; have g3 : (s14.1 1 2411).toInt = (s.1 1 2411).toInt := j_fr hs14.1 1 2411 103 rfl rfl; have g4 := j_rd hJ 1 2411 (-1) 60 rfl; have g5 := x_1; omega) (by have g0 := i_add (v2) ((1 : Int32)); have g1 := p_v1; have g2 := i_rg v1; have g3 := p_v2; have g4 := i_rg v2; have g5 : (1 : Int32).toInt = 1 := rfl; have g6 := i_nle c1; have g7 : (61 : Int32).toInt = 61 := rfl; have g8 := hn; omega)
      · exact h_X12_soonest_b50 _ _ js14 (by have f0 := p_v2; have f1 := i_rg v2; have f2 := i_nle c1; have f3 : (61 : Int32).toInt = 61 := rfl; omega) (by have g0 := j_rd js14 1 2411 (-1) 60 rfl; have g1 : (s14.1 1 2411).toInt = (s.1 1 2411).toInt := j_fr hs14.1 1 2411 103 rfl rfl; have g2 := j_rd hJ 1 2411 (-1) 60 rfl; have g3 := x_1; omega)
theorem h_X12_soonest (a1 : Int32) {s : Sg} (hR : Rg rM s) : OQ (f_X12_soonest a1 s) (fun r9 s9 => JM 10141204811269415361761429684226 s s9 ∧ (True ∧ ((s9.1 1 11).toInt = (s.1 1 11).toInt)) ∧ (r9 = 0 → True) ∧ (¬ r9 = 0 → True)) := by
  have hJ : JM 10141204811269415361761429684226 s s := j_refl hR
  unfold f_X12_soonest
  refine oq_b (h_X12_isQuarrel _ hJ.1) (fun r1 s2 hs2 => ?_)
  have js2 : JM 10141204811269415361761429684226 s s2 := j_call hJ hs2.1 rfl
  refine oq_if (fun c1 => ?_) (fun c1 => ?_)
  · refine oq_b (h_X12_refuse _ js2.1 (by have f0 : (1 : Int32).toInt = 1 := rfl; omega)) (fun r3 s4 hs4 => ?_)
    have js4 : JM 10141204811269415361761429684226 s s4 := j_call js2 hs4.1 rfl
    exact ⟨js4, ⟨trivial, (by have g0 := hs4.2.1; have g1 := i_rg r3; have g2 := j_rd hJ 1 11 (-1) 60 rfl; have g3 := j_rd js4 1 11 (-1) 60 rfl; have g4 : (s4.1 1 11).toInt = (s2.1 1 11).toInt := j_fr hs4.1 1 11 71 rfl rfl; have g5 := j_rd js2 1 11 (-1) 60 rfl; have g6 : (s2.1 1 11).toInt = (s.1 1 11).toInt := j_fr hs2.1 1 11 71 rfl rfl; omega)⟩, fun w9 => False.elim (by have f0 := hs4.2.1; have f1 := i_rg r3; have f2 := i_eq w9; have f3 : (0 : Int32).toInt = 0 := rfl; omega), fun _ => trivial⟩
  · refine oq_b (h_X12_keepsAll  js2.1) (fun u2 s6 hs6 => ?_)
    have js6 : JM 10141204811269415361761429684226 s s6 := j_call js2 hs6.1 rfl
    exact h_X12_soonest_b20 BIG _ _ _ js6 (by have f0 := i_rg a1; have f1 := (hs2.2.2.2 c1).1; have f2 := (hs2.2.2.2 c1).2; have f3 : (0 : Int32).toInt = 0 := rfl; have f4 : (7 : Int32).toInt = 7 := rfl; omega) (by have f0 : (0 : Int32).toInt = 0 := rfl; omega) (by have g0 := hs6.2; have g1 := j_rd js6 1 2411 (-1) 60 rfl; have g2 := j_rd hJ 1 11 (-1) 60 rfl; have g3 := j_rd js2 1 11 (-1) 60 rfl; have g4 : (s2.1 1 11).toInt = (s.1 1 11).toInt := j_fr hs2.1 1 11 71 rfl rfl; omega) (by have g0 := i_rg a1; have g1 : (0 : Int32).toInt = 0 := rfl; have g2 := (hs2.2.2.2 c1).1; have g3 := (hs2.2.2.2 c1).2; have g4 : (7 : Int32).toInt = 7 := rfl; have g5 : BIG = 4294967296 := rfl; omega)
theorem h_X12_orNone (a1 : Int32) {s : Sg} (hR : Rg rM s) : OQ (f_X12_orNone a1 s) (fun r9 s9 => JM 4194304 s s9 ∧ True ∧ (r9 = 0 → 0 ≤ (a1).toInt ∧ (a1).toInt ≤ 0) ∧ (¬ r9 = 0 → True)) := by
  have hJ : JM 4194304 s s := j_refl hR
  unfold f_X12_orNone
  refine oq_if (fun c1 => ?_) (fun c1 => ?_)
  · refine oq_b (h_X12_refuse _ hJ.1 (by have f0 : (6 : Int32).toInt = 6 := rfl; omega)) (fun r1 s2 hs2 => ?_)
    have js2 : JM 4194304 s s2 := j_call hJ hs2.1 rfl
    exact ⟨js2, trivial, fun w9 => False.elim (by have f0 := hs2.2.1; have f1 := i_rg r1; have f2 := i_eq w9; have f3 : (0 : Int32).toInt = 0 := rfl; omega), fun _ => trivial⟩
  · refine oq_b (h_X12_gives _ hJ.1) (fun r3 s4 hs4 => ?_)
    have js4 : JM 4194304 s s4 := j_call hJ hs4.1 rfl
    exact ⟨js4, trivial, fun w9 => ⟨(by have f0 : (0 : Int32).toInt = 0 := rfl; have f1 := i_rg a1; have f2 := i_ne c1; have f3 := (hs4.2.2.1 w9).1; have f4 := (hs4.2.2.1 w9).2; have f5 : ((-1) : Int32).toInt = (-1) := rfl; omega), (by have f0 := i_rg a1; have f1 : (0 : Int32).toInt = 0 := rfl; have f2 := i_ne c1; have f3 := (hs4.2.2.1 w9).1; have f4 := (hs4.2.2.1 w9).2; have f5 : ((-1) : Int32).toInt = (-1) := rfl; omega)⟩, fun _ => trivial⟩
theorem h_X12_longest_b4 {s0 : Sg} (n : Nat) : ∀ (v1 : Int32) (v2 : Int32) (s : Sg), JM 4194304 s0 s → (-1) ≤ v1.toInt ∧ v1.toInt ≤ 7 → 0 ≤ v2.toInt ∧ v2.toInt ≤ 8 → 8 - v2.toInt < (n : Int) → OQ (f_X12_longest_b4 n v1 v2 s) (fun r9 s9 => JM 4194304 s0 s9 ∧ True ∧ (r9 = 0 → True) ∧ (¬ r9 = 0 → True)) := by
  induction n with
  | zero => intro v1 v2 s hJ p_v1 p_v2 hn; exact False.elim (by have g0 := hn; have g1 := p_v1; have g2 := p_v2; have g3 := i_rg v1; have g4 := i_rg v2; omega)
  | succ n ih =>
    intro v1 v2 s hJ p_v1 p_v2 hn
    unfold f_X12_longest_b4
    refine oq_if (fun c1 => ?_) (fun c1 => ?_)
    · refine oq_b (h_X12_orNone _ hJ.1) (fun r1 s2 hs2 => ?_)
      have js2 : JM 4194304 s0 s2 := j_call hJ hs2.1 rfl
      exact ⟨js2, trivial, fun _ => trivial, fun _ => trivial⟩
    · refine oq_b (h_X12_quarrelRow _ hJ.1 (by have f0 := p_v2; have f1 := i_rg v2; have f2 := i_nle c1; have f3 := j_rd hJ 1 1 0 8 rfl; omega)) (fun r3 s4 hs4 => ?_)
      have js4 : JM 4194304 s0 s4 := j_call hJ hs4.1 rfl
      refine oq_c (inr_of (by have f0 := i_add (r3) ((3 : Int32)); have f1 := hs4.2.1; have f2 := i_rg r3; have f3 := hs4.2.1.2; have f4 : (3 : Int32).toInt = 3 := rfl; have f5 := p_v2; have f6 := i_rg v2; have f7 := i_nle c1; have f8 := j_rd hJ 1 1 0 8 rfl; omega)) ?_
      refine oq_if (fun c2 => ?_) (fun c2 => ?_)
      · refine oq_if (fun c3 => ?_) (fun c3 => ?_)
        · exact ih _ _ _ js4 (by have f0 := p_v2; have f1 := i_rg v2; have f2 := i_nle c1; have f3 := j_rd hJ 1 1 0 8 rfl; omega) (by have f0 := i_add (v2) ((1 : Int32)); have f1 := p_v2; have f2 := i_rg v2; have f3 : (1 : Int32).toInt = 1 := rfl; have f4 := i_nle c1; have f5 := j_rd hJ 1 1 0 8 rfl; omega) (by have g0 := i_add (v2) ((1 : Int32)); have g1 := p_v2; have g2 := i_rg v2; have g3 : (1 : Int32).toInt = 1 := rfl; have g4 := i_nle c1; have g5 := j_rd hJ 1 1 0 8 rfl; have g6 := hn; omega)
        · refine oq_b (h_X12_quarrelRow _ js4.1 (by have f0 := p_v2; have f1 := i_rg v2; have f2 := i_nle c1; have f3 := j_rd hJ 1 1 0 8 rfl; omega)) (fun r6 s7 hs7 => ?_)
          have js7 : JM 4194304 s0 s7 := j_call js4 hs7.1 rfl
          refine oq_c (inr_of (by have f0 := i_add (r6) ((4 : Int32)); have f1 := hs7.2.1; have f2 := i_rg r6; have f3 := hs7.2.1.2; have f4 : (4 : Int32).toInt = 4 := rfl; have f5 := p_v2; have f6 := i_rg v2; have f7 := i_nle c1; have f8 := j_rd hJ 1 1 0 8 rfl; omega)) ?_
          refine oq_b (h_X12_quarrelRow _ js7.1 (by have f0 := p_v1; have f1 := i_rg v1; have f2 := i_ne c3; have f3 : ((-1) : Int32).toInt = (-1) := rfl; omega)) (fun r9 s10 hs10 => ?_)
          have js10 : JM 4194304 s0 s10 := j_call js7 hs10.1 rfl
          refine oq_c (inr_of (by have f0 := i_add (r9) ((4 : Int32)); have f1 := hs10.2.1; have f2 := i_rg r9; have f3 := hs10.2.1.2; have f4 : (4 : Int32).toInt = 4 := rfl; have f5 := p_v1; have f6 := i_rg v1; have f7 := i_ne c3; have f8 : ((-1) : Int32).toInt = (-1) := rfl; omega)) ?_
          refine oq_if (fun c4 => ?_) (fun c4 => ?_)
          · exact ih _ _ _ js10 (by have f0 := p_v1; have f1 := i_rg v1; have f2 := i_ne c3; have f3 : ((-1) : Int32).toInt = (-1) := rfl; omega) (by have f0 := i_add (v2) ((1 : Int32)); have f1 := p_v2; have f2 := i_rg v2; have f3 : (1 : Int32).toInt = 1 := rfl; have f4 := i_nle c1; have f5 := j_rd hJ 1 1 0 8 rfl; omega) (by have g0 := i_add (v2) ((1 : Int32)); have g1 := p_v1; have g2 := i_rg v1; have g3 := p_v2; have g4 := i_rg v2; have g5 : (1 : Int32).toInt = 1 := rfl; have g6 := i_nle c1; have g7 := i_ne c3; have g8 := j_rd hJ 1 1 0 8 rfl; have g9 : ((-1) : Int32).toInt = (-1) := rfl; have g10 := hn; omega)
          · exact ih _ _ _ js10 (by have f0 := p_v2; have f1 := i_rg v2; have f2 := i_nle c1; have f3 := j_rd hJ 1 1 0 8 rfl; omega) (by have f0 := i_add (v2) ((1 : Int32)); have f1 := p_v2; have f2 := i_rg v2; have f3 : (1 : Int32).toInt = 1 := rfl; have f4 := i_nle c1; have f5 := j_rd hJ 1 1 0 8 rfl; omega) (by have g0 := i_add (v2) ((1 : Int32)); have g1 := p_v2; have g2 := i_rg v2; have g3 : (1 : Int32).toInt = 1 := rfl; have g4 := i_nle c1; have g5 := j_rd hJ 1 1 0 8 rfl; have g6 := hn; omega)
      · exact ih _ _ _ js4 (by have f0 := p_v1; have f1 := i_rg v1; omega) (by have f0 := i_add (v2) ((1 : Int32)); have f1 := p_v2; have f2 := i_rg v2; have f3 : (1 : Int32).toInt = 1 := rfl; have f4 := i_nle c1; have f5 := j_rd hJ 1 1 0 8 rfl; omega) (by have g0 := i_add (v2) ((1 : Int32)); have g1 := p_v1; have g2 := i_rg v1; have g3 := p_v2; have g4 := i_rg v2; have g5 : (1 : Int32).toInt = 1 := rfl; have g6 := i_nle c1; have g7 := j_rd hJ 1 1 0 8 rfl; have g8 := hn; omega)
theorem h_X12_longest  {s : Sg} (hR : Rg rM s) : OQ (f_X12_longest  s) (fun r9 s9 => JM 4194304 s s9 ∧ True ∧ (r9 = 0 → True) ∧ (¬ r9 = 0 → True)) := by
  have hJ : JM 4194304 s s := j_refl hR
  unfold f_X12_longest
  exact h_X12_longest_b4 BIG _ _ _ hJ (by have f0 : ((-1) : Int32).toInt = (-1) := rfl; omega) (by have f0 : (0 : Int32).toInt = 0 := rfl; omega) (by have g0 : ((-1) : Int32).toInt = (-1) := rfl; have g1 : (0 : Int32).toInt = 0 := rfl; have g2 : BIG = 4294967296 := rfl; omega)
theorem h_X12_fullest_b4 {s0 : Sg} (n : Nat) : ∀ (v1 : Int32) (v2 : Int32) (s : Sg), JM 4194304 s0 s → (-1) ≤ v1.toInt ∧ v1.toInt ≤ 7 → 0 ≤ v2.toInt ∧ v2.toInt ≤ 8 → 8 - v2.toInt < (n : Int) → OQ (f_X12_fullest_b4 n v1 v2 s) (fun r9 s9 => JM 4194304 s0 s9 ∧ True ∧ (r9 = 0 → True) ∧ (¬ r9 = 0 → True)) := by
  induction n with
  | zero => intro v1 v2 s hJ p_v1 p_v2 hn; exact False.elim (by have g0 := hn; have g1 := p_v1; have g2 := p_v2; have g3 := i_rg v1; have g4 := i_rg v2; omega)
  | succ n ih =>
    intro v1 v2 s hJ p_v1 p_v2 hn
    unfold f_X12_fullest_b4
    refine oq_if (fun c1 => ?_) (fun c1 => ?_)
    · refine oq_b (h_X12_orNone _ hJ.1) (fun r1 s2 hs2 => ?_)
      have js2 : JM 4194304 s0 s2 := j_call hJ hs2.1 rfl
      exact ⟨js2, trivial, fun _ => trivial, fun _ => trivial⟩
    · refine oq_b (h_X12_isGone _ hJ.1 (by have f0 := p_v2; have f1 := i_rg v2; have f2 := i_nle c1; have f3 := j_rd hJ 1 0 0 8 rfl; omega)) (fun r3 s4 hs4 => ?_)
      have js4 : JM 4194304 s0 s4 := j_call hJ hs4.1 rfl
      refine oq_if (fun c2 => ?_) (fun c2 => ?_)
      · refine oq_if (fun c3 => ?_) (fun c3 => ?_)
        · exact ih _ _ _ js4 (by have f0 := p_v2; have f1 := i_rg v2; have f2 := i_nle c1; have f3 := j_rd hJ 1 0 0 8 rfl; omega) (by have f0 := i_add (v2) ((1 : Int32)); have f1 := p_v2; have f2 := i_rg v2; have f3 : (1 : Int32).toInt = 1 := rfl; have f4 := i_nle c1; have f5 := j_rd hJ 1 0 0 8 rfl; omega) (by have g0 := i_add (v2) ((1 : Int32)); have g1 := p_v2; have g2 := i_rg v2; have g3 : (1 : Int32).toInt = 1 := rfl; have g4 := i_nle c1; have g5 := j_rd hJ 1 0 0 8 rfl; have g6 := hn; omega)
        · refine oq_b (h_X12_grainsOn _ js4.1 (by have f0 := p_v2; have f1 := i_rg v2; have f2 := i_nle c1; have f3 := j_rd hJ 1 0 0 8 rfl; omega)) (fun r5 s6 hs6 => ?_)
          have js6 : JM 4194304 s0 s6 := j_call js4 hs6.1 rfl
          refine oq_b (h_X12_grainsOn _ js6.1 (by have f0 := p_v1; have f1 := i_rg v1; have f2 := i_ne c3; have f3 : ((-1) : Int32).toInt = (-1) := rfl; omega)) (fun r7 s8 hs8 => ?_)
          have js8 : JM 4194304 s0 s8 := j_call js6 hs8.1 rfl
          refine oq_if (fun c4 => ?_) (fun c4 => ?_)
          · exact ih _ _ _ js8 (by have f0 := p_v1; have f1 := i_rg v1; have f2 := i_ne c3; have f3 : ((-1) : Int32).toInt = (-1) := rfl; omega) (by have f0 := i_add (v2) ((1 : Int32)); have f1 := p_v2; have f2 := i_rg v2; have f3 : (1 : Int32).toInt = 1 := rfl; have f4 := i_nle c1; have f5 := j_rd hJ 1 0 0 8 rfl; omega) (by have g0 := i_add (v2) ((1 : Int32)); have g1 := p_v1; have g2 := i_rg v1; have g3 := p_v2; have g4 := i_rg v2; have g5 : (1 : Int32).toInt = 1 := rfl; have g6 := i_nle c1; have g7 := i_ne c3; have g8 := j_rd hJ 1 0 0 8 rfl; have g9 : ((-1) : Int32).toInt = (-1) := rfl; have g10 := hn; omega)
          · exact ih _ _ _ js8 (by have f0 := p_v2; have f1 := i_rg v2; have f2 := i_nle c1; have f3 := j_rd hJ 1 0 0 8 rfl; omega) (by have f0 := i_add (v2) ((1 : Int32)); have f1 := p_v2; have f2 := i_rg v2; have f3 : (1 : Int32).toInt = 1 := rfl; have f4 := i_nle c1; have f5 := j_rd hJ 1 0 0 8 rfl; omega) (by have g0 := i_add (v2) ((1 : Int32)); have g1 := p_v2; have g2 := i_rg v2; have g3 : (1 : Int32).toInt = 1 := rfl; have g4 := i_nle c1; have g5 := j_rd hJ 1 0 0 8 rfl; have g6 := hn; omega)
      · exact ih _ _ _ js4 (by have f0 := p_v1; have f1 := i_rg v1; omega) (by have f0 := i_add (v2) ((1 : Int32)); have f1 := p_v2; have f2 := i_rg v2; have f3 : (1 : Int32).toInt = 1 := rfl; have f4 := i_nle c1; have f5 := j_rd hJ 1 0 0 8 rfl; omega) (by have g0 := i_add (v2) ((1 : Int32)); have g1 := p_v1; have g2 := i_rg v1; have g3 := p_v2; have g4 := i_rg v2; have g5 : (1 : Int32).toInt = 1 := rfl; have g6 := i_nle c1; have g7 := j_rd hJ 1 0 0 8 rfl; have g8 := hn; omega)
theorem h_X12_fullest  {s : Sg} (hR : Rg rM s) : OQ (f_X12_fullest  s) (fun r9 s9 => JM 4194304 s s9 ∧ True ∧ (r9 = 0 → True) ∧ (¬ r9 = 0 → True)) := by
  have hJ : JM 4194304 s s := j_refl hR
  unfold f_X12_fullest
  exact h_X12_fullest_b4 BIG _ _ _ hJ (by have f0 : ((-1) : Int32).toInt = (-1) := rfl; omega) (by have f0 : (0 : Int32).toInt = 0 := rfl; omega) (by have g0 : ((-1) : Int32).toInt = (-1) := rfl; have g1 : (0 : Int32).toInt = 0 := rfl; have g2 : BIG = 4294967296 := rfl; omega)
theorem h_X12_bits_b4 {s0 : Sg} (n : Nat) : ∀ (v1 : Int32) (v2 : Int32) (s : Sg), JM 0 s0 s → 0 ≤ v2.toInt ∧ v2.toInt ≤ 511 → v2.toInt < (n : Int) → OQ (f_X12_bits_b4 n v1 v2 s) (fun r9 s9 => JM 0 s0 s9 ∧ True ∧ (r9 = 0 → True) ∧ (¬ r9 = 0 → True)) := by
  induction n with
  | zero => intro v1 v2 s hJ p_v2 hn; exact False.elim (by have g0 := hn; have g1 := p_v2; have g2 := i_rg v1; have g3 := i_rg v2; omega)
  | succ n ih =>
    intro v1 v2 s hJ p_v2 hn
    unfold f_X12_bits_b4
    refine oq_if (fun c1 => ?_) (fun c1 => ?_)
    · exact ⟨hJ, trivial, fun _ => trivial, fun _ => trivial⟩
    · exact ih _ _ _ hJ (by have f0 := i_sub (v2) ((1 : Int32)); have f1 := i_and (v2) (v2 - 1) (by have f0 := i_sub (v2) ((1 : Int32)); have f1 := p_v2; have f2 := i_rg v2; have f3 : (1 : Int32).toInt = 1 := rfl; have f4 := i_ne c1; have f5 : (0 : Int32).toInt = 0 := rfl; omega); have f2 := p_v2; have f3 := i_rg v2; have f4 : (1 : Int32).toInt = 1 := rfl; have f5 := i_ne c1; have f6 : (0 : Int32).toInt = 0 := rfl; omega) (by have g0 := i_add (v1) ((1 : Int32)); have g1 := i_sub (v2) ((1 : Int32)); have g2 := i_and (v2) (v2 - 1) (by have f0 := i_sub (v2) ((1 : Int32)); have f1 := p_v2; have f2 := i_rg v2; have f3 : (1 : Int32).toInt = 1 := rfl; have f4 := i_ne c1; have f5 : (0 : Int32).toInt = 0 := rfl; omega); have g3 := i_rg v1; have g4 : (1 : Int32).toInt = 1 := rfl; have g5 := p_v2; have g6 := i_rg v2; have g7 := i_ne c1; have g8 : (0 : Int32).toInt = 0 := rfl; have g9 := hn; omega)
theorem h_X12_bits (a0 : Int32) {s : Sg} (hR : Rg rM s) (p_a0 : 0 ≤ a0.toInt ∧ a0.toInt ≤ 511) : OQ (f_X12_bits a0 s) (fun r9 s9 => JM 0 s s9 ∧ True ∧ (r9 = 0 → True) ∧ (¬ r9 = 0 → True)) := by
  have hJ : JM 0 s s := j_refl hR
  unfold f_X12_bits
  exact h_X12_bits_b4 BIG _ _ _ hJ (by have f0 := p_a0; have f1 := i_rg a0; omega) (by have g0 : (0 : Int32).toInt = 0 := rfl; have g1 := p_a0; have g2 := i_rg a0; have g3 : BIG = 4294967296 := rfl; omega)
theorem h_X12_best_b32 {s0 : Sg} (n : Nat) : ∀ (v1 : Int32) (v2 : Int32) (v3 : Int32) (v4 : Int32) (v5 : Int32) (s : Sg), JM 4194306 s0 s → 0 ≤ v2.toInt ∧ v2.toInt ≤ 511 → (-1) ≤ v3.toInt ∧ v3.toInt ≤ 7 → 0 ≤ v4.toInt ∧ v4.toInt ≤ 2147483647 → 0 ≤ v5.toInt ∧ v5.toInt ≤ 8 → 8 - v5.toInt < (n : Int) → OQ (f_X12_best_b32 n v1 v2 v3 v4 v5 s) (fun r9 s9 => JM 4194306 s0 s9 ∧ True ∧ (r9 = 0 → True) ∧ (¬ r9 = 0 → True)) := by
  induction n with
  | zero => intro v1 v2 v3 v4 v5 s hJ p_v2 p_v3 p_v4 p_v5 hn; exact False.elim (by have g0 := hn; have g1 := p_v2; have g2 := p_v3; have g3 := p_v4; have g4 := p_v5; have g5 := i_rg v1; have g6 := i_rg v2; have g7 := i_rg v3; have g8 := i_rg v4; have g9 := i_rg v5; omega)
  | succ n ih =>
    intro v1 v2 v3 v4 v5 s hJ p_v2 p_v3 p_v4 p_v5 hn
    unfold f_X12_best_b32
    refine oq_if (fun c1 => ?_) (fun c1 => ?_)
    · refine oq_b (h_X12_orNone _ hJ.1) (fun r7 s8 hs8 => ?_)
      have js8 : JM 4194306 s0 s8 := j_call hJ hs8.1 rfl
      exact ⟨js8, trivial, fun _ => trivial, fun _ => trivial⟩
    · refine oq_b (h_X12_isGone _ hJ.1 (by have f0 := p_v5; have f1 := i_rg v5; have f2 := i_nle c1; have f3 := j_rd hJ 1 0 0 8 rfl; omega)) (fun r9 s10 hs10 => ?_)
      have js10 : JM 4194306 s0 s10 := j_call hJ hs10.1 rfl
      refine oq_if (fun c2 => ?_) (fun c2 => ?_)
      · refine oq_b (h_X12_houseRow _ js10.1 (by have f0 := p_v5; have f1 := i_rg v5; have f2 := i_nle c1; have f3 := j_rd hJ 1 0 0 8 rfl; omega)) (fun r11 s12 hs12 => ?_)
        have js12 : JM 4194306 s0 s12 := j_call js10 hs12.1 rfl
        refine oq_c (inr_of (by have f0 := hs12.2.1; have f1 := i_rg r11; have f2 := hs12.2.1.2; have f3 := p_v5; have f4 := i_rg v5; have f5 := i_nle c1; have f6 := j_rd hJ 1 0 0 8 rfl; omega)) ?_
        refine oq_n (fun s14 es14 => ?_)
        have js14 : JM 4194306 s0 s14 := by rw [es14]; exact (j_wm js12 (rz_f (by have d0 := hs12.2.1; have d1 := i_rg r11; have d2 := hs12.2.1.2; have d3 := p_v5; have d4 := i_rg v5; have d5 := i_nle c1; have d6 := j_rd hJ 1 0 0 8 rfl; have d7 := cl_nat (r11); omega) ((s12.1 1 r11.toNatClampNeg) + v1)) (mk_1 (by have d0 := hs12.2.1; have d1 := i_rg r11; have d2 := hs12.2.1.2; have d3 := p_v5; have d4 := i_rg v5; have d5 := i_nle c1; have d6 := j_rd hJ 1 0 0 8 rfl; have d7 := cl_nat (r11); omega) rfl))
        refine oq_b (h_X12_setOf _ js14.1 (by have f0 : (0 : Int32).toInt = 0 := rfl; omega)) (fun r15 s16 hs16 => ?_)
        have js16 : JM 4194306 s0 s16 := j_call js14 hs16.1 rfl
        refine oq_b (h_X12_bits _ js16.1 (by have f0 := i_and2 (r15) (v2 ^^^ (-1)) (by have f0 := hs16.2.1; have f1 := i_rg r15; omega); have f1 := hs16.2.1; have f2 := i_rg r15; have f3 := p_v2; have f4 := i_rg v2; have f5 : ((-1) : Int32).toInt = (-1) := rfl; omega)) (fun r17 s18 hs18 => ?_)
        have js18 : JM 4194306 s0 s18 := j_call js16 hs18.1 rfl
        refine oq_b (h_X12_houseRow _ js18.1 (by have f0 := p_v5; have f1 := i_rg v5; have f2 := i_nle c1; have f3 := j_rd hJ 1 0 0 8 rfl; omega)) (fun r19 s20 hs20 => ?_)
        have js20 : JM 4194306 s0 s20 := j_call js18 hs20.1 rfl
        refine oq_c (inr_of (by have f0 := hs20.2.1; have f1 := i_rg r19; have f2 := hs20.2.1.2; have f3 := p_v5; have f4 := i_rg v5; have f5 := i_nle c1; have f6 := j_rd hJ 1 0 0 8 rfl; omega)) ?_
        refine oq_n (fun s22 es22 => ?_)
        have js22 : JM 4194306 s0 s22 := by rw [es22]; exact (j_wm js20 (rz_f (by have d0 := hs20.2.1; have d1 := i_rg r19; have d2 := hs20.2.1.2; have d3 := p_v5; have d4 := i_rg v5; have d5 := i_nle c1; have d6 := j_rd hJ 1 0 0 8 rfl; have d7 := cl_nat (r19); omega) ((s20.1 1 r19.toNatClampNeg) - v1)) (mk_1 (by have d0 := hs20.2.1; have d1 := i_rg r19; have d2 := hs20.2.1.2; have d3 := p_v5; have d4 := i_rg v5; have d5 := i_nle c1; have d6 := j_rd hJ 1 0 0 8 rfl; have d7 := cl_nat (r19); omega) rfl))
        refine oq_if (fun c3 => ?_) (fun c3 => ?_)
        · exact ih _ _ _ _ _ _ js22 (by have f0 := p_v2; have f1 := i_rg v2; omega) (by have f0 := p_v5; have f1 := i_rg v5; have f2 := i_nle c1; have f3 := j_rd hJ 1 0 0 8 rfl; omega) (by have f0 := i_rg r17; have f1 := i_lt c3; have f2 := p_v4; have f3 := i_rg v4; omega) (by have f0 := i_add (v5) ((1 : Int32)); have f1 := p_v5; have f2 := i_rg v5; have f3 : (1 : Int32).toInt = 1 := rfl; have f4 := i_nle c1; have f5 := j_rd hJ 1 0 0 8 rfl; omega) (by have g0 := i_add (v5) ((1 : Int32)); have g1 := i_rg v1; have g2 := p_v2; have g3 := i_rg v2; have g4 := p_v5; have g5 := i_rg v5; have g6 := i_rg r17; have g7 : (1 : Int32).toInt = 1 := rfl; have g8 := i_nle c1; have g9 := i_lt c3; have g10 := j_rd hJ 1 0 0 8 rfl; have g11 := p_v4; have g12 := i_rg v4; have g13 := hn; omega)
        · exact ih _ _ _ _ _ _ js22 (by have f0 := p_v2; have f1 := i_rg v2; omega) (by have f0 := p_v3; have f1 := i_rg v3; omega) (by have f0 := p_v4; have f1 := i_rg v4; have f2 := i_nlt c3; have f3 := i_rg r17; omega) (by have f0 := i_add (v5) ((1 : Int32)); have f1 := p_v5; have f2 := i_rg v5; have f3 : (1 : Int32).toInt = 1 := rfl; have f4 := i_nle c1; have f5 := j_rd hJ 1 0 0 8 rfl; omega) (by have g0 := i_add (v5) ((1 : Int32)); have g1 := i_rg v1; have g2 := p_v2; have g3 := i_rg v2; have g4 := p_v3; have g5 := i_rg v3; have g6 := p_v4; have g7 := i_rg v4; have g8 := p_v5; have g9 := i_rg v5; have g10 : (1 : Int32).toInt = 1 := rfl; have g11 := i_nle c1; have g12 := i_nlt c3; have g13 := j_rd hJ 1 0 0 8 rfl; have g14 := i_rg r17; have g15 := hn; omega)
      · exact ih _ _ _ _ _ _ js10 (by have f0 := p_v2; have f1 := i_rg v2; omega) (by have f0 := p_v3; have f1 := i_rg v3; omega) (by have f0 := p_v4; have f1 := i_rg v4; omega) (by have f0 := i_add (v5) ((1 : Int32)); have f1 := p_v5; have f2 := i_rg v5; have f3 : (1 : Int32).toInt = 1 := rfl; have f4 := i_nle c1; have f5 := j_rd hJ 1 0 0 8 rfl; omega) (by have g0 := i_add (v5) ((1 : Int32)); have g1 := i_rg v1; have g2 := p_v2; have g3 := i_rg v2; have g4 := p_v3; have g5 := i_rg v3; have g6 := p_v4; have g7 := i_rg v4; have g8 := p_v5; have g9 := i_rg v5; have g10 : (1 : Int32).toInt = 1 := rfl; have g11 := i_nle c1; have g12 := j_rd hJ 1 0 0 8 rfl; have g13 := hn; omega)
theorem h_X12_best (a1 : Int32) {s : Sg} (hR : Rg rM s) : OQ (f_X12_best a1 s) (fun r9 s9 => JM 4194306 s s9 ∧ True ∧ (r9 = 0 → True) ∧ (¬ r9 = 0 → True)) := by
  have hJ : JM 4194306 s s := j_refl hR
  unfold f_X12_best
  refine oq_b (h_X12_isFrom _ _ _ hJ.1) (fun r1 s2 hs2 => ?_)
  have js2 : JM 4194306 s s2 := j_call hJ hs2.1 rfl
  refine oq_if (fun c1 => ?_) (fun c1 => ?_)
  · refine oq_b (h_X12_refuse _ js2.1 (by have f0 : (1 : Int32).toInt = 1 := rfl; omega)) (fun r3 s4 hs4 => ?_)
    have js4 : JM 4194306 s s4 := j_call js2 hs4.1 rfl
    exact ⟨js4, trivial, fun w9 => False.elim (by have f0 := hs4.2.1; have f1 := i_rg r3; have f2 := i_eq w9; have f3 : (0 : Int32).toInt = 0 := rfl; omega), fun _ => trivial⟩
  · refine oq_b (h_X12_setOf _ js2.1 (by have f0 : (0 : Int32).toInt = 0 := rfl; omega)) (fun r5 s6 hs6 => ?_)
    have js6 : JM 4194306 s s6 := j_call js2 hs6.1 rfl
    exact h_X12_best_b32 BIG _ _ _ _ _ _ js6 (by have f0 := hs6.2.1; have f1 := i_rg r5; omega) (by have f0 : ((-1) : Int32).toInt = (-1) := rfl; omega) (by have f0 : (0 : Int32).toInt = 0 := rfl; omega) (by have f0 : (0 : Int32).toInt = 0 := rfl; omega) (by have g0 := i_rg a1; have g1 := hs6.2.1; have g2 := i_rg r5; have g3 : ((-1) : Int32).toInt = (-1) := rfl; have g4 : (0 : Int32).toInt = 0 := rfl; have g5 : BIG = 4294967296 := rfl; omega)
theorem h_X12_needAt_b5 {s0 : Sg} (n : Nat) : ∀ (v1 : Int32) (v2 : Int32) (v3 : Int32) (v4 : Int32) (s : Sg), JM 0 s0 s → 0 ≤ v2.toInt ∧ v2.toInt ≤ 7 → 0 ≤ v4.toInt ∧ v4.toInt ≤ 8 → 8 - v4.toInt < (n : Int) → OQ (f_X12_needAt_b5 n v1 v2 v3 v4 s) (fun r9 s9 => JM 0 s0 s9 ∧ True ∧ (r9 = 0 → True) ∧ (¬ r9 = 0 → True)) := by
  induction n with
  | zero => intro v1 v2 v3 v4 s hJ p_v2 p_v4 hn; exact False.elim (by have g0 := hn; have g1 := p_v2; have g2 := p_v4; have g3 := i_rg v1; have g4 := i_rg v2; have g5 := i_rg v3; have g6 := i_rg v4; omega)
  | succ n ih =>
    intro v1 v2 v3 v4 s hJ p_v2 p_v4 hn
    unfold f_X12_needAt_b5
    refine oq_if (fun c1 => ?_) (fun c1 => ?_)
    · exact ⟨hJ, trivial, fun _ => trivial, fun _ => trivial⟩
    · refine oq_if (fun c2 => ?_) (fun c2 => ?_)
      · refine oq_b (h_X12_isAt _ _ hJ.1 (by have f0 := p_v4; have f1 := i_rg v4; have f2 := i_nle c1; have f3 := i_eq c2; have f4 := i_and (v4) ((31 : Int32)) (by decide); have f5 := i_and (v1 >>> (v4 &&& 31)) ((1 : Int32)) (by decide); have f6 := j_rd hJ 1 1 0 8 rfl; have f7 := i_rg v1; have f8 : (31 : Int32).toInt = 31 := rfl; have f9 : (1 : Int32).toInt = 1 := rfl; omega)) (fun r1 s2 hs2 => ?_)
        have js2 : JM 0 s0 s2 := j_call hJ hs2.1 rfl
        refine oq_if (fun c3 => ?_) (fun c3 => ?_)
        · exact ih _ _ _ _ _ js2 (by have f0 := p_v2; have f1 := i_rg v2; omega) (by have f0 := i_add (v4) ((1 : Int32)); have f1 := p_v4; have f2 := i_rg v4; have f3 : (1 : Int32).toInt = 1 := rfl; have f4 := i_nle c1; have f5 := i_eq c2; have f6 := i_and (v4) ((31 : Int32)) (by decide); have f7 := i_and (v1 >>> (v4 &&& 31)) ((1 : Int32)) (by decide); have f8 := j_rd hJ 1 1 0 8 rfl; have f9 := i_rg v1; have f10 : (31 : Int32).toInt = 31 := rfl; omega) (by have g0 := i_add (v3) ((0 : Int32)); have g1 := i_add (v4) ((1 : Int32)); have g2 := i_rg v1; have g3 := p_v2; have g4 := i_rg v2; have g5 := i_rg v3; have g6 : (0 : Int32).toInt = 0 := rfl; have g7 := p_v4; have g8 := i_rg v4; have g9 : (1 : Int32).toInt = 1 := rfl; have g10 := i_nle c1; have g11 := i_eq c2; have g12 := i_and (v4) ((31 : Int32)) (by decide); have g13 := i_and (v1 >>> (v4 &&& 31)) ((1 : Int32)) (by decide); have g14 := j_rd hJ 1 1 0 8 rfl; have g15 : (31 : Int32).toInt = 31 := rfl; have g16 := hn; omega)
        · refine oq_b (h_X12_quarrelRow _ js2.1 (by have f0 := p_v4; have f1 := i_rg v4; have f2 := i_nle c1; have f3 := i_eq c2; have f4 := i_and (v4) ((31 : Int32)) (by decide); have f5 := i_and (v1 >>> (v4 &&& 31)) ((1 : Int32)) (by decide); have f6 := j_rd hJ 1 1 0 8 rfl; have f7 := i_rg v1; have f8 : (31 : Int32).toInt = 31 := rfl; have f9 : (1 : Int32).toInt = 1 := rfl; omega)) (fun r3 s4 hs4 => ?_)
          have js4 : JM 0 s0 s4 := j_call js2 hs4.1 rfl
          refine oq_c (inr_of (by have f0 := i_add (r3) ((2 : Int32)); have f1 := hs4.2.1; have f2 := i_rg r3; have f3 := hs4.2.1.2; have f4 : (2 : Int32).toInt = 2 := rfl; have f5 := p_v4; have f6 := i_rg v4; have f7 := i_nle c1; have f8 := i_eq c2; have f9 := i_and (v4) ((31 : Int32)) (by decide); have f10 := i_and (v1 >>> (v4 &&& 31)) ((1 : Int32)) (by decide); have f11 := j_rd hJ 1 1 0 8 rfl; have f12 := i_rg v1; have f13 : (31 : Int32).toInt = 31 := rfl; have f14 : (1 : Int32).toInt = 1 := rfl; omega)) ?_
          refine oq_n (fun x6 ex6 => ?_)
          exact ih _ _ _ _ _ js4 (by have f0 := p_v2; have f1 := i_rg v2; have f2 := (hs2.2.2.2 c3).1; have f3 := (hs2.2.2.2 c3).2; have f4 : ((-1) : Int32).toInt = (-1) := rfl; have f5 : (7 : Int32).toInt = 7 := rfl; omega) (by have f0 := i_add (v4) ((1 : Int32)); have f1 := p_v4; have f2 := i_rg v4; have f3 : (1 : Int32).toInt = 1 := rfl; have f4 := i_nle c1; have f5 := i_eq c2; have f6 := i_and (v4) ((31 : Int32)) (by decide); have f7 := i_and (v1 >>> (v4 &&& 31)) ((1 : Int32)) (by decide); have f8 := j_rd hJ 1 1 0 8 rfl; have f9 := i_rg v1; have f10 : (31 : Int32).toInt = 31 := rfl; omega) (by have g0 := i_add (v4) ((1 : Int32)); have g1 := i_rg v1; have g2 := p_v2; have g3 := i_rg v2; have g4 := i_eq ex6; have g5 := i_add (v3) (s4.1 1 ((r3 + 2).toNatClampNeg)); have g6 := i_rg x6; have g7 := p_v4; have g8 := i_rg v4; have g9 : (1 : Int32).toInt = 1 := rfl; have g10 := i_rg v3; have g11 : (s4.1 1 ((r3 + 2).toNatClampNeg)).toInt = (s2.1 1 ((r3 + 2).toNatClampNeg)).toInt := j_fa hs4.1 ((r3 + 2).toNatClampNeg) rfl; have g12 := i_rg (s4.1 1 ((r3 + 2).toNatClampNeg)); have g13 : (s2.1 1 ((r3 + 2).toNatClampNeg)).toInt = (s.1 1 ((r3 + 2).toNatClampNeg)).toInt := j_fa hs2.1 ((r3 + 2).toNatClampNeg) rfl; have g14 := i_rg (s2.1 1 ((r3 + 2).toNatClampNeg)); have g15 := i_rg (s.1 1 ((r3 + 2).toNatClampNeg)); have g16 := i_nle c1; have g17 := i_eq c2; have g18 := i_and (v4) ((31 : Int32)) (by decide); have g19 := i_and (v1 >>> (v4 &&& 31)) ((1 : Int32)) (by decide); have g20 := (hs2.2.2.2 c3).1; have g21 := (hs2.2.2.2 c3).2; have g22 := j_rd hJ 1 1 0 8 rfl; have g23 : (31 : Int32).toInt = 31 := rfl; have g24 : ((-1) : Int32).toInt = (-1) := rfl; have g25 : (7 : Int32).toInt = 7 := rfl; have g26 := hn; omega)
      · exact ih _ _ _ _ _ hJ (by have f0 := p_v2; have f1 := i_rg v2; omega) (by have f0 := i_add (v4) ((1 : Int32)); have f1 := p_v4; have f2 := i_rg v4; have f3 : (1 : Int32).toInt = 1 := rfl; have f4 := i_nle c1; have f5 := i_ne c2; have f6 := i_and (v4) ((31 : Int32)) (by decide); have f7 := i_and (v1 >>> (v4 &&& 31)) ((1 : Int32)) (by decide); have f8 := j_rd hJ 1 1 0 8 rfl; have f9 := i_rg v1; have f10 : (31 : Int32).toInt = 31 := rfl; omega) (by have g0 := i_add (v3) ((0 : Int32)); have g1 := i_add (v4) ((1 : Int32)); have g2 := i_rg v1; have g3 := p_v2; have g4 := i_rg v2; have g5 := i_rg v3; have g6 : (0 : Int32).toInt = 0 := rfl; have g7 := p_v4; have g8 := i_rg v4; have g9 : (1 : Int32).toInt = 1 := rfl; have g10 := i_nle c1; have g11 := i_ne c2; have g12 := i_and (v4) ((31 : Int32)) (by decide); have g13 := i_and (v1 >>> (v4 &&& 31)) ((1 : Int32)) (by decide); have g14 := j_rd hJ 1 1 0 8 rfl; have g15 : (31 : Int32).toInt = 31 := rfl; have g16 := hn; omega)
theorem h_X12_needAt (a1 : Int32) (a2 : Int32) {s : Sg} (hR : Rg rM s) (p_a2 : 0 ≤ a2.toInt ∧ a2.toInt ≤ 7) : OQ (f_X12_needAt a1 a2 s) (fun r9 s9 => JM 0 s s9 ∧ True ∧ (r9 = 0 → True) ∧ (¬ r9 = 0 → True)) := by
  have hJ : JM 0 s s := j_refl hR
  unfold f_X12_needAt
  exact h_X12_needAt_b5 BIG _ _ _ _ _ hJ (by have f0 := p_a2; have f1 := i_rg a2; omega) (by have f0 : (0 : Int32).toInt = 0 := rfl; omega) (by have g0 := i_rg a1; have g1 := p_a2; have g2 := i_rg a2; have g3 : (0 : Int32).toInt = 0 := rfl; have g4 : BIG = 4294967296 := rfl; omega)
theorem h_X12_lackOn (a1 : Int32) (a2 : Int32) {s : Sg} (hR : Rg rM s) (p_a2 : 0 ≤ a2.toInt ∧ a2.toInt ≤ 7) : OQ (f_X12_lackOn a1 a2 s) (fun r9 s9 => JM 0 s s9 ∧ (0 ≤ r9.toInt ∧ r9.toInt ≤ 2147483647) ∧ (r9 = 0 → True) ∧ (¬ r9 = 0 → True)) := by
  have hJ : JM 0 s s := j_refl hR
  unfold f_X12_lackOn
  refine oq_b (h_X12_needAt _ _ hJ.1 (by have f0 := p_a2; have f1 := i_rg a2; omega)) (fun r1 s2 hs2 => ?_)
  have js2 : JM 0 s s2 := j_call hJ hs2.1 rfl
  refine oq_b (h_X12_grainsOn _ js2.1 (by have f0 := p_a2; have f1 := i_rg a2; omega)) (fun r3 s4 hs4 => ?_)
  have js4 : JM 0 s s4 := j_call js2 hs4.1 rfl
  exact ⟨js4, (by have f0 := i_sub (r1) (r3); have f1 := ite_lt ((0 : Int32)) (r1 - r3) (r1 - r3) ((0 : Int32)); have f2 : (0 : Int32).toInt = 0 := rfl; have f3 := i_rg r1; have f4 := i_rg r3; omega), fun _ => trivial, fun _ => trivial⟩
theorem h_X12_closest_b41 {s0 : Sg} (k_6 : Int32 → Int32 → Int32 → Sg → Option (Int32 × Sg)) (m_6 : Nat) (hk_6 : ∀ (v1 : Int32) (v2 : Int32) (v3 : Int32) (s : Sg), JM 4194304 s0 s → (-1) ≤ v1.toInt ∧ v1.toInt ≤ 7 → 0 ≤ v3.toInt ∧ v3.toInt ≤ 8 → 8 - v3.toInt < (m_6 : Int) → OQ (k_6 v1 v2 v3 s) (fun r9 s9 => JM 4194304 s0 s9 ∧ True ∧ (r9 = 0 → True) ∧ (¬ r9 = 0 → True))) (n : Nat) : ∀ (v1 : Int32) (v2 : Int32) (v3 : Int32) (v4 : Int32) (v5 : Int32) (s : Sg), JM 4194304 s0 s → (-1) ≤ v1.toInt ∧ v1.toInt ≤ 7 → 0 ≤ v3.toInt ∧ v3.toInt ≤ 7 → 0 ≤ v5.toInt ∧ v5.toInt ≤ 8 → 8 - v3.toInt < (m_6 : Int) + 1 → 8 - v5.toInt < (n : Int) → OQ (f_X12_closest_b41 k_6 n v1 v2 v3 v4 v5 s) (fun r9 s9 => JM 4194304 s0 s9 ∧ True ∧ (r9 = 0 → True) ∧ (¬ r9 = 0 → True)) := by
  induction n with
  | zero => intro v1 v2 v3 v4 v5 s hJ p_v1 p_v3 p_v5 hm_6 hn; exact False.elim (by have g0 := hn; have g1 := p_v1; have g2 := p_v3; have g3 := p_v5; have g4 := i_rg v1; have g5 := i_rg v2; have g6 := i_rg v3; have g7 := i_rg v4; have g8 := i_rg v5; omega)
  | succ n ih =>
    intro v1 v2 v3 v4 v5 s hJ p_v1 p_v3 p_v5 hm_6 hn
    unfold f_X12_closest_b41
    refine oq_if (fun c1 => ?_) (fun c1 => ?_)
    · refine oq_if (fun c2 => ?_) (fun c2 => ?_)
      · exact hk_6 _ _ _ _ hJ (by have f0 := p_v3; have f1 := i_rg v3; omega) (by have f0 := i_add (v3) ((1 : Int32)); have f1 := p_v3; have f2 := i_rg v3; have f3 : (1 : Int32).toInt = 1 := rfl; omega) (by have g0 := i_add (v3) ((1 : Int32)); have g1 := p_v3; have g2 := i_rg v3; have g3 := i_rg v4; have g4 : (1 : Int32).toInt = 1 := rfl; have g5 := hm_6; omega)
      · refine oq_if (fun c3 => ?_) (fun c3 => ?_)
        · exact hk_6 _ _ _ _ hJ (by have f0 := p_v3; have f1 := i_rg v3; omega) (by have f0 := i_add (v3) ((1 : Int32)); have f1 := p_v3; have f2 := i_rg v3; have f3 : (1 : Int32).toInt = 1 := rfl; omega) (by have g0 := i_add (v3) ((1 : Int32)); have g1 := p_v3; have g2 := i_rg v3; have g3 := i_rg v4; have g4 : (1 : Int32).toInt = 1 := rfl; have g5 := i_lt c3; have g6 := i_rg v2; have g7 := hm_6; omega)
        · exact hk_6 _ _ _ _ hJ (by have f0 := p_v1; have f1 := i_rg v1; have f2 := i_ne c2; have f3 : ((-1) : Int32).toInt = (-1) := rfl; omega) (by have f0 := i_add (v3) ((1 : Int32)); have f1 := p_v3; have f2 := i_rg v3; have f3 : (1 : Int32).toInt = 1 := rfl; omega) (by have g0 := i_add (v3) ((1 : Int32)); have g1 := p_v1; have g2 := i_rg v1; have g3 := i_rg v2; have g4 := p_v3; have g5 := i_rg v3; have g6 : (1 : Int32).toInt = 1 := rfl; have g7 := i_ne c2; have g8 := i_nlt c3; have g9 : ((-1) : Int32).toInt = (-1) := rfl; have g10 := i_rg v4; have g11 := hm_6; omega)
    · refine oq_b (h_X12_isGone _ hJ.1 (by have f0 := p_v5; have f1 := i_rg v5; have f2 := i_nle c1; have f3 := j_rd hJ 1 0 0 8 rfl; omega)) (fun r7 s8 hs8 => ?_)
      have js8 : JM 4194304 s0 s8 := j_call hJ hs8.1 rfl
      refine oq_if (fun c4 => ?_) (fun c4 => ?_)
      · refine oq_b (h_X12_lackOn _ _ js8.1 (by have f0 := p_v5; have f1 := i_rg v5; have f2 := i_nle c1; have f3 := j_rd hJ 1 0 0 8 rfl; omega)) (fun r9 s10 hs10 => ?_)
        have js10 : JM 4194304 s0 s10 := j_call js8 hs10.1 rfl
        exact ih _ _ _ _ _ _ js10 (by have f0 := p_v1; have f1 := i_rg v1; omega) (by have f0 := p_v3; have f1 := i_rg v3; omega) (by have f0 := i_add (v5) ((1 : Int32)); have f1 := p_v5; have f2 := i_rg v5; have f3 : (1 : Int32).toInt = 1 := rfl; have f4 := i_nle c1; have f5 := j_rd hJ 1 0 0 8 rfl; omega) (by have g0 := i_add (v4) (r9); have g1 := i_add (v5) ((1 : Int32)); have g2 := p_v1; have g3 := i_rg v1; have g4 := i_rg v2; have g5 := p_v3; have g6 := i_rg v3; have g7 := i_rg v4; have g8 := hs10.2.1; have g9 := i_rg r9; have g10 := p_v5; have g11 := i_rg v5; have g12 : (1 : Int32).toInt = 1 := rfl; have g13 := i_nle c1; have g14 := j_rd hJ 1 0 0 8 rfl; have g15 := hm_6; omega) (by have g0 := i_add (v4) (r9); have g1 := i_add (v5) ((1 : Int32)); have g2 := p_v1; have g3 := i_rg v1; have g4 := i_rg v2; have g5 := p_v3; have g6 := i_rg v3; have g7 := i_rg v4; have g8 := hs10.2.1; have g9 := i_rg r9; have g10 := p_v5; have g11 := i_rg v5; have g12 : (1 : Int32).toInt = 1 := rfl; have g13 := i_nle c1; have g14 := j_rd hJ 1 0 0 8 rfl; have g15 := hn; omega)
      · exact ih _ _ _ _ _ _ js8 (by have f0 := p_v1; have f1 := i_rg v1; omega) (by have f0 := p_v3; have f1 := i_rg v3; omega) (by have f0 := i_add (v5) ((1 : Int32)); have f1 := p_v5; have f2 := i_rg v5; have f3 : (1 : Int32).toInt = 1 := rfl; have f4 := i_nle c1; have f5 := j_rd hJ 1 0 0 8 rfl; omega) (by have g0 := i_add (v4) ((0 : Int32)); have g1 := i_add (v5) ((1 : Int32)); have g2 := p_v1; have g3 := i_rg v1; have g4 := i_rg v2; have g5 := p_v3; have g6 := i_rg v3; have g7 := i_rg v4; have g8 : (0 : Int32).toInt = 0 := rfl; have g9 := p_v5; have g10 := i_rg v5; have g11 : (1 : Int32).toInt = 1 := rfl; have g12 := i_nle c1; have g13 := j_rd hJ 1 0 0 8 rfl; have g14 := hm_6; omega) (by have g0 := i_add (v4) ((0 : Int32)); have g1 := i_add (v5) ((1 : Int32)); have g2 := p_v1; have g3 := i_rg v1; have g4 := i_rg v2; have g5 := p_v3; have g6 := i_rg v3; have g7 := i_rg v4; have g8 : (0 : Int32).toInt = 0 := rfl; have g9 := p_v5; have g10 := i_rg v5; have g11 : (1 : Int32).toInt = 1 := rfl; have g12 := i_nle c1; have g13 := j_rd hJ 1 0 0 8 rfl; have g14 := hn; omega)
theorem h_X12_closest_b6 {s0 : Sg} (n : Nat) : ∀ (v1 : Int32) (v2 : Int32) (v3 : Int32) (s : Sg), JM 4194304 s0 s → (-1) ≤ v1.toInt ∧ v1.toInt ≤ 7 → 0 ≤ v3.toInt ∧ v3.toInt ≤ 8 → 8 - v3.toInt < (n : Int) → OQ (f_X12_closest_b6 n v1 v2 v3 s) (fun r9 s9 => JM 4194304 s0 s9 ∧ True ∧ (r9 = 0 → True) ∧ (¬ r9 = 0 → True)) := by
  induction n with
  | zero => intro v1 v2 v3 s hJ p_v1 p_v3 hn; exact False.elim (by have g0 := hn; have g1 := p_v1; have g2 := p_v3; have g3 := i_rg v1; have g4 := i_rg v2; have g5 := i_rg v3; omega)
  | succ n ih =>
    intro v1 v2 v3 s hJ p_v1 p_v3 hn
    unfold f_X12_closest_b6
    refine oq_if (fun c1 => ?_) (fun c1 => ?_)
    · refine oq_b (h_X12_orNone _ hJ.1) (fun r1 s2 hs2 => ?_)
      have js2 : JM 4194304 s0 s2 := j_call hJ hs2.1 rfl
      exact ⟨js2, trivial, fun _ => trivial, fun _ => trivial⟩
    · refine oq_b (h_X12_hasPeace _ hJ.1 (by have f0 := p_v3; have f1 := i_rg v3; have f2 := i_nle c1; have f3 := j_rd hJ 1 1 0 8 rfl; omega)) (fun r3 s4 hs4 => ?_)
      have js4 : JM 4194304 s0 s4 := j_call hJ hs4.1 rfl
      refine oq_if (fun c2 => ?_) (fun c2 => ?_)
      · refine oq_b (h_X12_neverCan _ js4.1 (by have f0 := p_v3; have f1 := i_rg v3; have f2 := i_nle c1; have f3 := j_rd hJ 1 1 0 8 rfl; omega)) (fun r5 s6 hs6 => ?_)
        have js6 : JM 4194304 s0 s6 := j_call js4 hs6.1 rfl
        refine oq_if (fun c3 => ?_) (fun c3 => ?_)
        · exact h_X12_closest_b41 _ n ih BIG _ _ _ _ _ _ js6 (by have f0 := p_v1; have f1 := i_rg v1; omega) (by have f0 := p_v3; have f1 := i_rg v3; have f2 := i_nle c1; have f3 := j_rd hJ 1 1 0 8 rfl; omega) (by have f0 : (0 : Int32).toInt = 0 := rfl; omega) (by have g0 := p_v1; have g1 := i_rg v1; have g2 := i_rg v2; have g3 := p_v3; have g4 := i_rg v3; have g5 : (0 : Int32).toInt = 0 := rfl; have g6 := i_nle c1; have g7 := j_rd hJ 1 1 0 8 rfl; have g8 := hn; omega) (by have g0 := p_v1; have g1 := i_rg v1; have g2 := i_rg v2; have g3 := p_v3; have g4 := i_rg v3; have g5 : (0 : Int32).toInt = 0 := rfl; have g6 := i_nle c1; have g7 := j_rd hJ 1 1 0 8 rfl; have g8 : BIG = 4294967296 := rfl; omega)
        · exact ih _ _ _ _ js6 (by have f0 := p_v1; have f1 := i_rg v1; omega) (by have f0 := i_add (v3) ((1 : Int32)); have f1 := p_v3; have f2 := i_rg v3; have f3 : (1 : Int32).toInt = 1 := rfl; have f4 := i_nle c1; have f5 := j_rd hJ 1 1 0 8 rfl; omega) (by have g0 := i_add (v3) ((1 : Int32)); have g1 := p_v1; have g2 := i_rg v1; have g3 := i_rg v2; have g4 := p_v3; have g5 := i_rg v3; have g6 : (1 : Int32).toInt = 1 := rfl; have g7 := i_nle c1; have g8 := j_rd hJ 1 1 0 8 rfl; have g9 := hn; omega)
      · exact ih _ _ _ _ js4 (by have f0 := p_v1; have f1 := i_rg v1; omega) (by have f0 := i_add (v3) ((1 : Int32)); have f1 := p_v3; have f2 := i_rg v3; have f3 : (1 : Int32).toInt = 1 := rfl; have f4 := i_nle c1; have f5 := j_rd hJ 1 1 0 8 rfl; omega) (by have g0 := i_add (v3) ((1 : Int32)); have g1 := p_v1; have g2 := i_rg v1; have g3 := i_rg v2; have g4 := p_v3; have g5 := i_rg v3; have g6 : (1 : Int32).toInt = 1 := rfl; have g7 := i_nle c1; have g8 := j_rd hJ 1 1 0 8 rfl; have g9 := hn; omega)
theorem h_X12_closest  {s : Sg} (hR : Rg rM s) : OQ (f_X12_closest  s) (fun r9 s9 => JM 4194304 s s9 ∧ True ∧ (r9 = 0 → True) ∧ (¬ r9 = 0 → True)) := by
  have hJ : JM 4194304 s s := j_refl hR
  unfold f_X12_closest
  exact h_X12_closest_b6 BIG _ _ _ _ hJ (by have f0 : ((-1) : Int32).toInt = (-1) := rfl; omega) (by have f0 : (0 : Int32).toInt = 0 := rfl; omega) (by have g0 : ((-1) : Int32).toInt = (-1) := rfl; have g1 : (0 : Int32).toInt = 0 := rfl; have g2 : BIG = 4294967296 := rfl; omega)
theorem h_X12_level_b107 {s0 : Sg} (k_67 : Int32 → Int32 → Int32 → Int32 → Int32 → Int32 → Sg → Option (Int32 × Sg)) (m_67 : Nat) (hk_67 : ∀ (v1 : Int32) (v2 : Int32) (v3 : Int32) (v4 : Int32) (v5 : Int32) (v6 : Int32) (s : Sg), JM 4194304 s0 s → 0 ≤ v6.toInt ∧ v6.toInt ≤ 8 → ¬ v1 = 0 → 8 - v6.toInt < (m_67 : Int) → OQ (k_67 v1 v2 v3 v4 v5 v6 s) (fun r9 s9 => JM 4194304 s0 s9 ∧ True ∧ (r9 = 0 → True) ∧ (¬ r9 = 0 → True))) (v1 : Int32) (v2 : Int32) (v3 : Int32) (v5 : Int32) (v6 : Int32) (t0 : Int32) (t1 : Int32) (s : Sg) (hJ : JM 4194304 s0 s) (p_v6 : 0 ≤ v6.toInt ∧ v6.toInt ≤ 7) (p_t0 : 0 ≤ t0.toInt ∧ t0.toInt ≤ 1) (x_9 : ¬ v1 = 0) (hm_67 : 8 - v6.toInt < (m_67 : Int) + 1) : OQ (f_X12_level_b107 k_67 v1 v2 v3 v5 v6 t0 t1 s) (fun r9 s9 => JM 4194304 s0 s9 ∧ True ∧ (r9 = 0 → True) ∧ (¬ r9 = 0 → True)) := by
  unfold f_X12_level_b107
  refine oq_b (h_X12_grainsOn _ hJ.1 (by have f0 := p_v6; have f1 := i_rg v6; omega)) (fun r11 s12 hs12 => ?_)
  have js12 : JM 4194304 s0 s12 := j_call hJ hs12.1 rfl
  refine oq_n (fun x13 ex13 => ?_)
  exact hk_67 _ _ _ _ _ _ _ js12 (by have f0 := i_add (v6) ((1 : Int32)); have f1 := p_v6; have f2 := i_rg v6; have f3 : (1 : Int32).toInt = 1 := rfl; omega) x_9 (by have g0 := i_add (t1) (t0); have g1 := i_add (v6) ((1 : Int32)); have g2 := i_rg v1; have g3 := i_rg v2; have g4 := i_rg v3; have g5 := i_rg t1; have g6 := p_t0; have g7 := i_rg t0; have g8 := i_eq ex13; have g9 := i_sub (r11) (v3); have g10 := i_sub (r11 - v3) ((1 : Int32)); have g11 := ite_lt ((0 : Int32)) ((r11 - v3) - 1) ((r11 - v3) - 1) ((0 : Int32)); have g12 := i_add (v5) (if 0 < ((r11 - v3) - 1) then ((r11 - v3) - 1) else 0); have g13 := i_rg x13; have g14 := p_v6; have g15 := i_rg v6; have g16 : (1 : Int32).toInt = 1 := rfl; have g17 := i_rg v5; have g18 : (0 : Int32).toInt = 0 := rfl; have g19 := i_rg r11; have g20 := i_ne x_9; have g21 := hm_67; omega)
theorem h_X12_level_b67 {s0 : Sg} (n : Nat) : ∀ (v1 : Int32) (v2 : Int32) (v3 : Int32) (v4 : Int32) (v5 : Int32) (v6 : Int32) (s : Sg), JM 4194304 s0 s → 0 ≤ v6.toInt ∧ v6.toInt ≤ 8 → ¬ v1 = 0 → 8 - v6.toInt < (n : Int) → OQ (f_X12_level_b67 n v1 v2 v3 v4 v5 v6 s) (fun r9 s9 => JM 4194304 s0 s9 ∧ True ∧ (r9 = 0 → True) ∧ (¬ r9 = 0 → True)) := by
  induction n with
  | zero => intro v1 v2 v3 v4 v5 v6 s hJ p_v6 x_9 hn; exact False.elim (by have g0 := hn; have g1 := p_v6; have g2 := i_rg v1; have g3 := i_rg v2; have g4 := i_rg v3; have g5 := i_rg v4; have g6 := i_rg v5; have g7 := i_rg v6; omega)
  | succ n ih =>
    intro v1 v2 v3 v4 v5 v6 s hJ p_v6 x_9 hn
    unfold f_X12_level_b67
    refine oq_if (fun c1 => ?_) (fun c1 => ?_)
    · refine oq_c x_9 ?_
      refine oq_b (h_X12_gives _ hJ.1) (fun r5 s6 hs6 => ?_)
      have js6 : JM 4194304 s0 s6 := j_call hJ hs6.1 rfl
      exact ⟨js6, trivial, fun _ => trivial, fun _ => trivial⟩
    · refine oq_b (h_X12_isGone _ hJ.1 (by have f0 := p_v6; have f1 := i_rg v6; have f2 := i_nle c1; have f3 := j_rd hJ 1 0 0 8 rfl; omega)) (fun r7 s8 hs8 => ?_)
      have js8 : JM 4194304 s0 s8 := j_call hJ hs8.1 rfl
      refine oq_if (fun c2 => ?_) (fun c2 => ?_)
      · refine oq_b (h_X12_grainsOn _ js8.1 (by have f0 := p_v6; have f1 := i_rg v6; have f2 := i_nle c1; have f3 := j_rd hJ 1 0 0 8 rfl; omega)) (fun r9 s10 hs10 => ?_)
        have js10 : JM 4194304 s0 s10 := j_call js8 hs10.1 rfl
        refine oq_if (fun c3 => ?_) (fun c3 => ?_)
        · exact h_X12_level_b107 _ n ih _ _ _ _ _ _ _ _ js10 (by have f0 := p_v6; have f1 := i_rg v6; have f2 := i_nle c1; have f3 := j_rd hJ 1 0 0 8 rfl; omega) (by have f0 : (0 : Int32).toInt = 0 := rfl; omega) x_9 (by have g0 := i_rg v1; have g1 := i_rg v2; have g2 := i_rg v3; have g3 := i_rg v5; have g4 := p_v6; have g5 := i_rg v6; have g6 : (0 : Int32).toInt = 0 := rfl; have g7 := i_rg v4; have g8 := i_ne x_9; have g9 := i_nle c1; have g10 := i_le c3; have g11 := j_rd hJ 1 0 0 8 rfl; have g12 := i_rg r9; have g13 := hn; omega)
        · exact h_X12_level_b107 _ n ih _ _ _ _ _ _ _ _ js10 (by have f0 := p_v6; have f1 := i_rg v6; have f2 := i_nle c1; have f3 := j_rd hJ 1 0 0 8 rfl; omega) (by have f0 : (1 : Int32).toInt = 1 := rfl; omega) x_9 (by have g0 := i_rg v1; have g1 := i_rg v2; have g2 := i_rg v3; have g3 := i_rg v5; have g4 := p_v6; have g5 := i_rg v6; have g6 : (1 : Int32).toInt = 1 := rfl; have g7 := i_rg v4; have g8 := i_ne x_9; have g9 := i_nle c1; have g10 := i_nle c3; have g11 : (0 : Int32).toInt = 0 := rfl; have g12 := j_rd hJ 1 0 0 8 rfl; have g13 := i_rg r9; have g14 := hn; omega)
      · exact ih _ _ _ _ _ _ _ js8 (by have f0 := i_add (v6) ((1 : Int32)); have f1 := p_v6; have f2 := i_rg v6; have f3 : (1 : Int32).toInt = 1 := rfl; have f4 := i_nle c1; have f5 := j_rd hJ 1 0 0 8 rfl; omega) x_9 (by have g0 := i_add (v6) ((1 : Int32)); have g1 := i_rg v1; have g2 := i_rg v2; have g3 := i_rg v3; have g4 := i_rg v4; have g5 := i_rg v5; have g6 := p_v6; have g7 := i_rg v6; have g8 : (1 : Int32).toInt = 1 := rfl; have g9 := i_ne x_9; have g10 := i_nle c1; have g11 : (0 : Int32).toInt = 0 := rfl; have g12 := j_rd hJ 1 0 0 8 rfl; have g13 := hn; omega)
theorem h_X12_level_b6 {s0 : Sg} (n : Nat) : ∀ (v1 : Int32) (v2 : Int32) (v3 : Int32) (s : Sg), JM 4194304 s0 s → 0 ≤ v3.toInt ∧ v3.toInt ≤ 8 → 8 - v3.toInt < (n : Int) → OQ (f_X12_level_b6 n v1 v2 v3 s) (fun r9 s9 => JM 4194304 s0 s9 ∧ True ∧ (r9 = 0 → True) ∧ (¬ r9 = 0 → True)) := by
  induction n with
  | zero => intro v1 v2 v3 s hJ p_v3 hn; exact False.elim (by have g0 := hn; have g1 := p_v3; have g2 := i_rg v1; have g3 := i_rg v2; have g4 := i_rg v3; omega)
  | succ n ih =>
    intro v1 v2 v3 s hJ p_v3 hn
    unfold f_X12_level_b6
    refine oq_if (fun c1 => ?_) (fun c1 => ?_)
    · refine oq_if (fun c2 => ?_) (fun c2 => ?_)
      · refine oq_b (h_X12_gives _ hJ.1) (fun r1 s2 hs2 => ?_)
        have js2 : JM 4194304 s0 s2 := j_call hJ hs2.1 rfl
        exact ⟨js2, trivial, fun _ => trivial, fun _ => trivial⟩
      · refine oq_c c2 ?_
        exact h_X12_level_b67 BIG _ _ _ _ _ _ _ hJ (by have f0 : (0 : Int32).toInt = 0 := rfl; omega) c2 (by have g0 := i_rg v1; have g1 := i_rg v2; have g2 : (0 : Int32).toInt = 0 := rfl; have g3 := i_ne c2; have g4 : BIG = 4294967296 := rfl; omega)
    · refine oq_b (h_X12_isGone _ hJ.1 (by have f0 := p_v3; have f1 := i_rg v3; have f2 := i_nle c1; have f3 := j_rd hJ 1 0 0 8 rfl; omega)) (fun r14 s15 hs15 => ?_)
      have js15 : JM 4194304 s0 s15 := j_call hJ hs15.1 rfl
      refine oq_if (fun c3 => ?_) (fun c3 => ?_)
      · refine oq_b (h_X12_grainsOn _ js15.1 (by have f0 := p_v3; have f1 := i_rg v3; have f2 := i_nle c1; have f3 := j_rd hJ 1 0 0 8 rfl; omega)) (fun r16 s17 hs17 => ?_)
        have js17 : JM 4194304 s0 s17 := j_call js15 hs17.1 rfl
        exact ih _ _ _ _ js17 (by have f0 := i_add (v3) ((1 : Int32)); have f1 := p_v3; have f2 := i_rg v3; have f3 : (1 : Int32).toInt = 1 := rfl; have f4 := i_nle c1; have f5 := j_rd hJ 1 0 0 8 rfl; omega) (by have g0 := i_add (v1) ((1 : Int32)); have g1 := i_add (v2) (r16); have g2 := i_add (v3) ((1 : Int32)); have g3 := i_rg v1; have g4 : (1 : Int32).toInt = 1 := rfl; have g5 := i_rg v2; have g6 := i_rg r16; have g7 := p_v3; have g8 := i_rg v3; have g9 := i_nle c1; have g10 := j_rd hJ 1 0 0 8 rfl; have g11 := hn; omega)
      · exact ih _ _ _ _ js15 (by have f0 := i_add (v3) ((1 : Int32)); have f1 := p_v3; have f2 := i_rg v3; have f3 : (1 : Int32).toInt = 1 := rfl; have f4 := i_nle c1; have f5 := j_rd hJ 1 0 0 8 rfl; omega) (by have g0 := i_add (v3) ((1 : Int32)); have g1 := i_rg v1; have g2 := i_rg v2; have g3 := p_v3; have g4 := i_rg v3; have g5 : (1 : Int32).toInt = 1 := rfl; have g6 := i_nle c1; have g7 := j_rd hJ 1 0 0 8 rfl; have g8 := hn; omega)
theorem h_X12_level  {s : Sg} (hR : Rg rM s) : OQ (f_X12_level  s) (fun r9 s9 => JM 4194304 s s9 ∧ True ∧ (r9 = 0 → True) ∧ (¬ r9 = 0 → True)) := by
  have hJ : JM 4194304 s s := j_refl hR
  unfold f_X12_level
  exact h_X12_level_b6 BIG _ _ _ _ hJ (by have f0 : (0 : Int32).toInt = 0 := rfl; omega) (by have g0 : (0 : Int32).toInt = 0 := rfl; have g1 : BIG = 4294967296 := rfl; omega)
theorem h_X12_thaw_b52 {s0 : Sg} (v3 : Int32) (s : Sg) (hJ : JM 10141204811269415361761429684226 s0 s) (p_v3 : 0 ≤ v3.toInt ∧ v3.toInt ≤ 61) (x_1 : ((s.1 1 2411).toInt = (s0.1 1 11).toInt)) : OQ (f_X12_thaw_b52 v3 s) (fun r9 s9 => JM 10141204811269415361761429684226 s0 s9 ∧ (True ∧ ((s9.1 1 11).toInt = (s0.1 1 11).toInt)) ∧ (r9 = 0 → True) ∧ (¬ r9 = 0 → True)) := by
  unfold f_X12_thaw_b52
  refine oq_b (h_X12_takesBack  hJ.1) (fun u1 s6 hs6 => ?_)
  have js6 : JM 10141204811269415361761429684226 s0 s6 := j_call hJ hs6.1 rfl
  refine oq_if (fun c2 => ?_) (fun c2 => ?_)
  · refine oq_b (h_X12_refuse _ js6.1 (by have f0 : (6 : Int32).toInt = 6 := rfl; omega)) (fun r7 s8 hs8 => ?_)
    have js8 : JM 10141204811269415361761429684226 s0 s8 := j_call js6 hs8.1 rfl
    exact ⟨js8, ⟨trivial, (by have g0 := hs8.2.1; have g1 := i_rg r7; have g2 := j_rd js8 1 11 (-1) 60 rfl; have g3 : (s8.1 1 11).toInt = (s6.1 1 11).toInt := j_fr hs8.1 1 11 71 rfl rfl; have g4 := hs6.2; have g5 := j_rd js6 1 11 (-1) 60 rfl; have g6 := j_rd hJ 1 2411 (-1) 60 rfl; have g7 := x_1; omega)⟩, fun w9 => False.elim (by have f0 := hs8.2.1; have f1 := i_rg r7; have f2 := i_eq w9; have f3 : (0 : Int32).toInt = 0 := rfl; omega), fun _ => trivial⟩
  · refine oq_b (h_X12_gives _ js6.1) (fun r9 s10 hs10 => ?_)
    have js10 : JM 10141204811269415361761429684226 s0 s10 := j_call js6 hs10.1 rfl
    exact ⟨js10, ⟨trivial, (by have g0 := i_rg r9; have g1 := j_rd js10 1 11 (-1) 60 rfl; have g2 : (s10.1 1 11).toInt = (s6.1 1 11).toInt := j_fr hs10.1 1 11 71 rfl rfl; have g3 := hs6.2; have g4 := j_rd js6 1 11 (-1) 60 rfl; have g5 := j_rd hJ 1 2411 (-1) 60 rfl; have g6 := x_1; omega)⟩, fun _ => trivial, fun _ => trivial⟩
theorem h_X12_thaw_b22 {s0 : Sg} (n : Nat) : ∀ (v1 : Int32) (v3 : Int32) (s : Sg), JM 10141204811269415361761429684226 s0 s → 0 ≤ v1.toInt ∧ v1.toInt ≤ 7 → 0 ≤ v3.toInt ∧ v3.toInt ≤ 61 → ((s.1 1 2411).toInt = (s0.1 1 11).toInt) → 61 - v3.toInt < (n : Int) → OQ (f_X12_thaw_b22 n v1 v3 s) (fun r9 s9 => JM 10141204811269415361761429684226 s0 s9 ∧ (True ∧ ((s9.1 1 11).toInt = (s0.1 1 11).toInt)) ∧ (r9 = 0 → True) ∧ (¬ r9 = 0 → True)) := by
  induction n with
  | zero => intro v1 v3 s hJ p_v1 p_v3 x_1 hn; exact False.elim (by have g0 := hn; have g1 := p_v1; have g2 := p_v3; have g3 := i_rg v1; have g4 := i_rg v3; have g5 := x_1; omega)
  | succ n ih =>
    intro v1 v3 s hJ p_v1 p_v3 x_1 hn
    unfold f_X12_thaw_b22
    refine oq_if (fun c1 => ?_) (fun c1 => ?_)
    · exact h_X12_thaw_b52 _ _ hJ (by have f0 := p_v3; have f1 := i_rg v3; have f2 := i_le c1; have f3 : (61 : Int32).toInt = 61 := rfl; omega) (by have g0 := j_rd hJ 1 2411 (-1) 60 rfl; have g1 := x_1; omega)
    · refine oq_b (h_X12_houseRow _ hJ.1 (by have f0 := p_v1; have f1 := i_rg v1; omega)) (fun r11 s12 hs12 => ?_)
      have js12 : JM 10141204811269415361761429684226 s0 s12 := j_call hJ hs12.1 rfl
      refine oq_c (inr_of (by have f0 := i_add (r11) ((2 : Int32)); have f1 := hs12.2.1; have f2 := i_rg r11; have f3 := hs12.2.1.2; have f4 : (2 : Int32).toInt = 2 := rfl; have f5 := p_v1; have f6 := i_rg v1; omega)) ?_
      refine oq_if (fun c2 => ?_) (fun c2 => ?_)
      · exact h_X12_thaw_b52 _ _ js12 (by have f0 := p_v3; have f1 := i_rg v3; have f2 := i_nle c1; have f3 : (61 : Int32).toInt = 61 := rfl; omega) (by have g0 := j_rd js12 1 2411 (-1) 60 rfl; have g1 : (s12.1 1 2411).toInt = (s.1 1 2411).toInt := j_fr hs12.1 1 2411 103 rfl rfl; have g2 := j_rd hJ 1 2411 (-1) 60 rfl; have g3 := x_1; omega)
      · refine oq_b (h_X12_nightGoes  js12.1) (fun u3 s15 hs15 => ?_)
        have js15 : JM 10141204811269415361761429684226 s0 s15 := j_call js12 hs15.1 rfl
        exact ih _ _ _ js15 (by have f0 := p_v1; have f1 := i_rg v1; omega) (by have f0 := i_add (v3) ((1 : Int32)); have f1 := p_v3; have f2 := i_rg v3; have f3 : (1 : Int32).toInt = 1 := rfl; have f4 := i_nle c1; have f5 : (61 : Int32).toInt = 61 := rfl; omega) (by have g0 := j_rd js15 1 2411 (-1) 60 rfl; have g1 : (s15.1 1 2411).toInt = (s12.1 1 2411).toInt := j_fr hs15.1 1 2411 103 rfl rfl; have g2 := j_rd js12 1 2411 (-1) 60 rfl; have g3 : (s12.1 1 2411).toInt = (s.1 1 2411).toInt := j_fr hs12.1 1 2411 103 rfl rfl; have g4 := j_rd hJ 1 2411 (-1) 60 rfl; have g5 := x_1; omega) (by have g0 := i_add (v3) ((1 : Int32)); have g1 := p_v1; have g2 := i_rg v1; have g3 := p_v3; have g4 := i_rg v3; have g5 : (1 : Int32).toInt = 1 := rfl; have g6 := i_nle c1; have g7 : (61 : Int32).toInt = 61 := rfl; have g8 := hn; omega)
theorem h_X12_thaw (a1 : Int32) {s : Sg} (hR : Rg rM s) : OQ (f_X12_thaw a1 s) (fun r9 s9 => JM 10141204811269415361761429684226 s s9 ∧ (True ∧ ((s9.1 1 11).toInt = (s.1 1 11).toInt)) ∧ (r9 = 0 → True) ∧ (¬ r9 = 0 → True)) := by
  have hJ : JM 10141204811269415361761429684226 s s := j_refl hR
  unfold f_X12_thaw
  refine oq_b (h_X12_wrongStep _ hJ.1) (fun r1 s2 hs2 => ?_)
  have js2 : JM 10141204811269415361761429684226 s s2 := j_call hJ hs2.1 rfl
  refine oq_if (fun c1 => ?_) (fun c1 => ?_)
  · refine oq_b (h_X12_keepsAll  js2.1) (fun u2 s4 hs4 => ?_)
    have js4 : JM 10141204811269415361761429684226 s s4 := j_call js2 hs4.1 rfl
    exact h_X12_thaw_b22 BIG _ _ _ js4 (by have f0 := i_rg a1; have f1 := hs2.2.1.2; have f2 := i_le c1; have f3 := hs2.2.1; have f4 := i_rg r1; have f5 : (0 : Int32).toInt = 0 := rfl; omega) (by have f0 : (0 : Int32).toInt = 0 := rfl; omega) (by have g0 := hs4.2; have g1 := j_rd js4 1 2411 (-1) 60 rfl; have g2 := j_rd hJ 1 11 (-1) 60 rfl; have g3 := j_rd js2 1 11 (-1) 60 rfl; have g4 : (s2.1 1 11).toInt = (s.1 1 11).toInt := j_fr hs2.1 1 11 71 rfl rfl; omega) (by have g0 := i_rg a1; have g1 : (0 : Int32).toInt = 0 := rfl; have g2 := hs2.2.1.2; have g3 := i_le c1; have g4 := hs2.2.1; have g5 := i_rg r1; have g6 : BIG = 4294967296 := rfl; omega)
  · refine oq_b (h_X12_refuse _ js2.1 (by have f0 := hs2.2.1; have f1 := i_rg r1; have f2 := hs2.2.1.2; have f3 := i_rg a1; have f4 := i_nle c1; have f5 : (0 : Int32).toInt = 0 := rfl; omega)) (fun r16 s17 hs17 => ?_)
    have js17 : JM 10141204811269415361761429684226 s s17 := j_call js2 hs17.1 rfl
    exact ⟨js17, ⟨trivial, (by have g0 := hs17.2.1; have g1 := i_rg r16; have g2 := j_rd hJ 1 11 (-1) 60 rfl; have g3 := j_rd js17 1 11 (-1) 60 rfl; have g4 : (s17.1 1 11).toInt = (s2.1 1 11).toInt := j_fr hs17.1 1 11 71 rfl rfl; have g5 := j_rd js2 1 11 (-1) 60 rfl; have g6 : (s2.1 1 11).toInt = (s.1 1 11).toInt := j_fr hs2.1 1 11 71 rfl rfl; omega)⟩, fun w9 => False.elim (by have f0 := hs17.2.1; have f1 := i_rg r16; have f2 := i_eq w9; have f3 : (0 : Int32).toInt = 0 := rfl; omega), fun _ => trivial⟩
theorem h_X12_isSnow_b2 {s0 : Sg} (n : Nat) : ∀ (v1 : Int32) (s : Sg), JM 0 s0 s → 0 ≤ v1.toInt ∧ v1.toInt ≤ 8 → 8 - v1.toInt < (n : Int) → OQ (f_X12_isSnow_b2 n v1 s) (fun r9 s9 => JM 0 s0 s9 ∧ (0 ≤ r9.toInt ∧ r9.toInt ≤ 1) ∧ (r9 = 0 → True) ∧ (¬ r9 = 0 → True)) := by
  induction n with
  | zero => intro v1 s hJ p_v1 hn; exact False.elim (by have g0 := hn; have g1 := p_v1; have g2 := i_rg v1; omega)
  | succ n ih =>
    intro v1 s hJ p_v1 hn
    unfold f_X12_isSnow_b2
    refine oq_if (fun c1 => ?_) (fun c1 => ?_)
    · exact ⟨hJ, (by have f0 : (0 : Int32).toInt = 0 := rfl; omega), fun _ => trivial, fun w9 => absurd rfl w9⟩
    · refine oq_b (h_X12_houseRow _ hJ.1 (by have f0 := p_v1; have f1 := i_rg v1; have f2 := i_nle c1; have f3 := j_rd hJ 1 0 0 8 rfl; omega)) (fun r1 s2 hs2 => ?_)
      have js2 : JM 0 s0 s2 := j_call hJ hs2.1 rfl
      refine oq_c (inr_of (by have f0 := i_add (r1) ((2 : Int32)); have f1 := hs2.2.1; have f2 := i_rg r1; have f3 := hs2.2.1.2; have f4 : (2 : Int32).toInt = 2 := rfl; have f5 := p_v1; have f6 := i_rg v1; have f7 := i_nle c1; have f8 := j_rd hJ 1 0 0 8 rfl; omega)) ?_
      refine oq_if (fun c2 => ?_) (fun c2 => ?_)
      · exact ih _ _ js2 (by have f0 := i_add (v1) ((1 : Int32)); have f1 := p_v1; have f2 := i_rg v1; have f3 : (1 : Int32).toInt = 1 := rfl; have f4 := i_nle c1; have f5 := j_rd hJ 1 0 0 8 rfl; omega) (by have g0 := i_add (v1) ((1 : Int32)); have g1 := p_v1; have g2 := i_rg v1; have g3 : (1 : Int32).toInt = 1 := rfl; have g4 := i_nle c1; have g5 := j_rd hJ 1 0 0 8 rfl; have g6 := hn; omega)
      · exact ⟨js2, (by have f0 : (1 : Int32).toInt = 1 := rfl; omega), fun w9 => absurd w9 (by decide), fun _ => trivial⟩
theorem h_X12_isSnow  {s : Sg} (hR : Rg rM s) : OQ (f_X12_isSnow  s) (fun r9 s9 => JM 0 s s9 ∧ (0 ≤ r9.toInt ∧ r9.toInt ≤ 1) ∧ (r9 = 0 → True) ∧ (¬ r9 = 0 → True)) := by
  have hJ : JM 0 s s := j_refl hR
  unfold f_X12_isSnow
  exact h_X12_isSnow_b2 BIG _ _ hJ (by have f0 : (0 : Int32).toInt = 0 := rfl; omega) (by have g0 : (0 : Int32).toInt = 0 := rfl; have g1 : BIG = 4294967296 := rfl; omega)
theorem h_X12_thawAll_b29 {s0 : Sg} (v1 : Int32) (s : Sg) (hJ : JM 10141204811269415361761429684226 s0 s) (p_v1 : 0 ≤ v1.toInt ∧ v1.toInt ≤ 61) (x_1 : ((s.1 1 2411).toInt = (s0.1 1 11).toInt)) : OQ (f_X12_thawAll_b29 v1 s) (fun r9 s9 => JM 10141204811269415361761429684226 s0 s9 ∧ (True ∧ ((s9.1 1 11).toInt = (s0.1 1 11).toInt)) ∧ (r9 = 0 → True) ∧ (¬ r9 = 0 → True)) := by
  unfold f_X12_thawAll_b29
  refine oq_b (h_X12_takesBack  hJ.1) (fun u1 s4 hs4 => ?_)
  have js4 : JM 10141204811269415361761429684226 s0 s4 := j_call hJ hs4.1 rfl
  refine oq_if (fun c2 => ?_) (fun c2 => ?_)
  · refine oq_b (h_X12_refuse _ js4.1 (by have f0 : (6 : Int32).toInt = 6 := rfl; omega)) (fun r5 s6 hs6 => ?_)
    have js6 : JM 10141204811269415361761429684226 s0 s6 := j_call js4 hs6.1 rfl
    exact ⟨js6, ⟨trivial, (by have g0 := hs6.2.1; have g1 := i_rg r5; have g2 := j_rd js6 1 11 (-1) 60 rfl; have g3 : (s6.1 1 11).toInt = (s4.1 1 11).toInt := j_fr hs6.1 1 11 71 rfl rfl; have g4 := hs4.2; have g5 := j_rd js4 1 11 (-1) 60 rfl; have g6 := j_rd hJ 1 2411 (-1) 60 rfl; have g7 := x_1; omega)⟩, fun w9 => False.elim (by have f0 := hs6.2.1; have f1 := i_rg r5; have f2 := i_eq w9; have f3 : (0 : Int32).toInt = 0 := rfl; omega), fun _ => trivial⟩
  · refine oq_b (h_X12_gives _ js4.1) (fun r7 s8 hs8 => ?_)
    have js8 : JM 10141204811269415361761429684226 s0 s8 := j_call js4 hs8.1 rfl
    exact ⟨js8, ⟨trivial, (by have g0 := i_rg r7; have g1 := j_rd js8 1 11 (-1) 60 rfl; have g2 : (s8.1 1 11).toInt = (s4.1 1 11).toInt := j_fr hs8.1 1 11 71 rfl rfl; have g3 := hs4.2; have g4 := j_rd js4 1 11 (-1) 60 rfl; have g5 := j_rd hJ 1 2411 (-1) 60 rfl; have g6 := x_1; omega)⟩, fun _ => trivial, fun _ => trivial⟩
theorem h_X12_thawAll_b6 {s0 : Sg} (n : Nat) : ∀ (v1 : Int32) (s : Sg), JM 10141204811269415361761429684226 s0 s → 0 ≤ v1.toInt ∧ v1.toInt ≤ 61 → ((s.1 1 2411).toInt = (s0.1 1 11).toInt) → 61 - v1.toInt < (n : Int) → OQ (f_X12_thawAll_b6 n v1 s) (fun r9 s9 => JM 10141204811269415361761429684226 s0 s9 ∧ (True ∧ ((s9.1 1 11).toInt = (s0.1 1 11).toInt)) ∧ (r9 = 0 → True) ∧ (¬ r9 = 0 → True)) := by
  induction n with
  | zero => intro v1 s hJ p_v1 x_1 hn; exact False.elim (by have g0 := hn; have g1 := p_v1; have g2 := i_rg v1; have g3 := x_1; omega)
  | succ n ih =>
    intro v1 s hJ p_v1 x_1 hn
    unfold f_X12_thawAll_b6
    refine oq_if (fun c1 => ?_) (fun c1 => ?_)
    · exact h_X12_thawAll_b29 _ _ hJ (by have f0 := p_v1; have f1 := i_rg v1; have f2 := i_le c1; have f3 : (61 : Int32).toInt = 61 := rfl; omega) (by have g0 := j_rd hJ 1 2411 (-1) 60 rfl; have g1 := x_1; omega)
    · refine oq_b (h_X12_isSnow  hJ.1) (fun r9 s10 hs10 => ?_)
      have js10 : JM 10141204811269415361761429684226 s0 s10 := j_call hJ hs10.1 rfl
      refine oq_if (fun c2 => ?_) (fun c2 => ?_)
      · exact h_X12_thawAll_b29 _ _ js10 (by have f0 := p_v1; have f1 := i_rg v1; have f2 := i_nle c1; have f3 : (61 : Int32).toInt = 61 := rfl; omega) (by have g0 := j_rd js10 1 2411 (-1) 60 rfl; have g1 : (s10.1 1 2411).toInt = (s.1 1 2411).toInt := j_fr hs10.1 1 2411 103 rfl rfl; have g2 := j_rd hJ 1 2411 (-1) 60 rfl; have g3 := x_1; omega)
      · refine oq_b (h_X12_nightGoes  js10.1) (fun u3 s12 hs12 => ?_)
        have js12 : JM 10141204811269415361761429684226 s0 s12 := j_call js10 hs12.1 rfl
        exact ih _ _ js12 (by have f0 := i_add (v1) ((1 : Int32)); have f1 := p_v1; have f2 := i_rg v1; have f3 : (1 : Int32).toInt = 1 := rfl; have f4 := i_nle c1; have f5 : (61 : Int32).toInt = 61 := rfl; omega) (by have g0 := j_rd js12 1 2411 (-1) 60 rfl; have g1 : (s12.1 1 2411).toInt = (s10.1 1 2411).toInt := j_fr hs12.1 1 2411 103 rfl rfl; have g2 := j_rd js10 1 2411 (-1) 60 rfl; have g3 : (s10.1 1 2411).toInt = (s.1 1 2411).toInt := j_fr hs10.1 1 2411 103 rfl rfl; have g4 := j_rd hJ 1 2411 (-1) 60 rfl; have g5 := x_1; omega) (by have g0 := i_add (v1) ((1 : Int32)); have g1 := p_v1; have g2 := i_rg v1; have g3 : (1 : Int32).toInt = 1 := rfl; have g4 := i_nle c1; have g5 : (61 : Int32).toInt = 61 := rfl; have g6 := hn; omega)
theorem h_X12_thawAll  {s : Sg} (hR : Rg rM s) : OQ (f_X12_thawAll  s) (fun r9 s9 => JM 10141204811269415361761429684226 s s9 ∧ (True ∧ ((s9.1 1 11).toInt = (s.1 1 11).toInt)) ∧ (r9 = 0 → True) ∧ (¬ r9 = 0 → True)) := by
  have hJ : JM 10141204811269415361761429684226 s s := j_refl hR
  unfold f_X12_thawAll
  refine oq_b (h_X12_keepsAll  hJ.1) (fun u1 s2 hs2 => ?_)
  have js2 : JM 10141204811269415361761429684226 s s2 := j_call hJ hs2.1 rfl
  exact h_X12_thawAll_b6 BIG _ _ js2 (by have f0 : (0 : Int32).toInt = 0 := rfl; omega) (by have g0 := hs2.2; have g1 := j_rd js2 1 2411 (-1) 60 rfl; have g2 := j_rd hJ 1 11 (-1) 60 rfl; omega) (by have g0 : (0 : Int32).toInt = 0 := rfl; have g1 : BIG = 4294967296 := rfl; omega)
theorem h_X12_wants_b65 {s0 : Sg} (k_21 : Int32 → Int32 → Int32 → Sg → Option (Int32 × Sg)) (m_21 : Nat) (hk_21 : ∀ (v1 : Int32) (v3 : Int32) (v4 : Int32) (s : Sg), JM 4194304 s0 s → 0 ≤ v1.toInt ∧ v1.toInt ≤ 7 → 0 ≤ v3.toInt ∧ v3.toInt ≤ 511 → 0 ≤ v4.toInt ∧ v4.toInt ≤ 8 → 8 - v4.toInt < (m_21 : Int) → OQ (k_21 v1 v3 v4 s) (fun r9 s9 => JM 4194304 s0 s9 ∧ True ∧ (r9 = 0 → True) ∧ (¬ r9 = 0 → True))) (v1 : Int32) (v3 : Int32) (v4 : Int32) (t0 : Int32) (s : Sg) (hJ : JM 4194304 s0 s) (p_v1 : 0 ≤ v1.toInt ∧ v1.toInt ≤ 7) (p_v3 : 0 ≤ v3.toInt ∧ v3.toInt ≤ 511) (p_v4 : 0 ≤ v4.toInt ∧ v4.toInt ≤ 7) (p_t0 : 0 ≤ t0.toInt ∧ t0.toInt ≤ 1) (hm_21 : 8 - v4.toInt < (m_21 : Int) + 1) : OQ (f_X12_wants_b65 k_21 v1 v3 v4 t0 s) (fun r9 s9 => JM 4194304 s0 s9 ∧ True ∧ (r9 = 0 → True) ∧ (¬ r9 = 0 → True)) := by
  unfold f_X12_wants_b65
  refine oq_b (h_X12_isFull _ _ hJ.1 (by have f0 := p_v4; have f1 := i_rg v4; omega) (by have f0 := i_sub ((1 : Int32)) (t0); have f1 : (1 : Int32).toInt = 1 := rfl; have f2 := p_t0; have f3 := i_rg t0; omega)) (fun r10 s11 hs11 => ?_)
  have js11 : JM 4194304 s0 s11 := j_call hJ hs11.1 rfl
  refine oq_if (fun c1 => ?_) (fun c1 => ?_)
  · exact hk_21 _ _ _ _ js11 (by have f0 := p_v1; have f1 := i_rg v1; omega) (by have f0 := i_or (v3) ((0 : Int32)) (by have f0 := p_v3; have f1 := i_rg v3; omega) (by have f0 : (0 : Int32).toInt = 0 := rfl; omega); have f1 := p_v3; have f2 := i_rg v3; have f3 : (0 : Int32).toInt = 0 := rfl; omega) (by have f0 := i_add (v4) ((1 : Int32)); have f1 := p_v4; have f2 := i_rg v4; have f3 : (1 : Int32).toInt = 1 := rfl; omega) (by have g0 := i_or (v3) ((0 : Int32)) (by have f0 := p_v3; have f1 := i_rg v3; omega) (by have f0 : (0 : Int32).toInt = 0 := rfl; omega); have g1 := i_add (v4) ((1 : Int32)); have g2 := p_v1; have g3 := i_rg v1; have g4 := p_v3; have g5 := i_rg v3; have g6 : (0 : Int32).toInt = 0 := rfl; have g7 := p_v4; have g8 := i_rg v4; have g9 : (1 : Int32).toInt = 1 := rfl; have g10 := hm_21; omega)
  · refine oq_b (h_X12_isFull _ _ js11.1 (by have f0 := p_v4; have f1 := i_rg v4; omega) (by have f0 := p_t0; have f1 := i_rg t0; omega)) (fun r12 s13 hs13 => ?_)
    have js13 : JM 4194304 s0 s13 := j_call js11 hs13.1 rfl
    refine oq_if (fun c2 => ?_) (fun c2 => ?_)
    · refine oq_n (fun x14 ex14 => ?_)
      exact hk_21 _ _ _ _ js13 (by have f0 := p_v1; have f1 := i_rg v1; omega) (by have f0 := i_eq ex14; have f1 := i_and (v4) ((31 : Int32)) (by decide); have f2 := i_sh (v4) (by have f0 := p_v4; have f1 := i_rg v4; omega); have f3 := i_or (v3) ((1 : Int32) <<< (v4 &&& 31)) (by have f0 := p_v3; have f1 := i_rg v3; omega) (by have f0 := i_and (v4) ((31 : Int32)) (by decide); have f1 := i_sh (v4) (by have f0 := p_v4; have f1 := i_rg v4; omega); have f2 : (1 : Int32).toInt = 1 := rfl; have f3 := p_v4; have f4 := i_rg v4; have f5 : (31 : Int32).toInt = 31 := rfl; omega); have f4 := i_rg x14; have f5 := p_v3; have f6 := i_rg v3; have f7 : (1 : Int32).toInt = 1 := rfl; have f8 := p_v4; have f9 := i_rg v4; have f10 : (31 : Int32).toInt = 31 := rfl; omega) (by have f0 := i_add (v4) ((1 : Int32)); have f1 := p_v4; have f2 := i_rg v4; have f3 : (1 : Int32).toInt = 1 := rfl; omega) (by have g0 := i_add (v4) ((1 : Int32)); have g1 := p_v1; have g2 := i_rg v1; have g3 := i_eq ex14; have g4 := i_and (v4) ((31 : Int32)) (by decide); have g5 := i_sh (v4) (by have f0 := p_v4; have f1 := i_rg v4; omega); have g6 := i_or (v3) ((1 : Int32) <<< (v4 &&& 31)) (by have f0 := p_v3; have f1 := i_rg v3; omega) (by have f0 := i_and (v4) ((31 : Int32)) (by decide); have f1 := i_sh (v4) (by have f0 := p_v4; have f1 := i_rg v4; omega); have f2 : (1 : Int32).toInt = 1 := rfl; have f3 := p_v4; have f4 := i_rg v4; have f5 : (31 : Int32).toInt = 31 := rfl; omega); have g7 := i_rg x14; have g8 := p_v4; have g9 := i_rg v4; have g10 : (1 : Int32).toInt = 1 := rfl; have g11 := p_v3; have g12 := i_rg v3; have g13 : (31 : Int32).toInt = 31 := rfl; have g14 := hm_21; omega)
    · exact hk_21 _ _ _ _ js13 (by have f0 := p_v1; have f1 := i_rg v1; omega) (by have f0 := i_or (v3) ((0 : Int32)) (by have f0 := p_v3; have f1 := i_rg v3; omega) (by have f0 : (0 : Int32).toInt = 0 := rfl; omega); have f1 := p_v3; have f2 := i_rg v3; have f3 : (0 : Int32).toInt = 0 := rfl; omega) (by have f0 := i_add (v4) ((1 : Int32)); have f1 := p_v4; have f2 := i_rg v4; have f3 : (1 : Int32).toInt = 1 := rfl; omega) (by have g0 := i_or (v3) ((0 : Int32)) (by have f0 := p_v3; have f1 := i_rg v3; omega) (by have f0 : (0 : Int32).toInt = 0 := rfl; omega); have g1 := i_add (v4) ((1 : Int32)); have g2 := p_v1; have g3 := i_rg v1; have g4 := p_v3; have g5 := i_rg v3; have g6 : (0 : Int32).toInt = 0 := rfl; have g7 := p_v4; have g8 := i_rg v4; have g9 : (1 : Int32).toInt = 1 := rfl; have g10 := hm_21; omega)
theorem h_X12_wants_b21 {s0 : Sg} (n : Nat) : ∀ (v1 : Int32) (v3 : Int32) (v4 : Int32) (s : Sg), JM 4194304 s0 s → 0 ≤ v1.toInt ∧ v1.toInt ≤ 7 → 0 ≤ v3.toInt ∧ v3.toInt ≤ 511 → 0 ≤ v4.toInt ∧ v4.toInt ≤ 8 → 8 - v4.toInt < (n : Int) → OQ (f_X12_wants_b21 n v1 v3 v4 s) (fun r9 s9 => JM 4194304 s0 s9 ∧ True ∧ (r9 = 0 → True) ∧ (¬ r9 = 0 → True)) := by
  induction n with
  | zero => intro v1 v3 v4 s hJ p_v1 p_v3 p_v4 hn; exact False.elim (by have g0 := hn; have g1 := p_v1; have g2 := p_v3; have g3 := p_v4; have g4 := i_rg v1; have g5 := i_rg v3; have g6 := i_rg v4; omega)
  | succ n ih =>
    intro v1 v3 v4 s hJ p_v1 p_v3 p_v4 hn
    unfold f_X12_wants_b21
    refine oq_if (fun c1 => ?_) (fun c1 => ?_)
    · refine oq_b (h_X12_gives _ hJ.1) (fun r3 s4 hs4 => ?_)
      have js4 : JM 4194304 s0 s4 := j_call hJ hs4.1 rfl
      exact ⟨js4, trivial, fun _ => trivial, fun _ => trivial⟩
    · refine oq_b (h_X12_isAt _ _ hJ.1 (by have f0 := p_v4; have f1 := i_rg v4; have f2 := i_nle c1; have f3 := j_rd hJ 1 1 0 8 rfl; omega)) (fun r5 s6 hs6 => ?_)
      have js6 : JM 4194304 s0 s6 := j_call hJ hs6.1 rfl
      refine oq_if (fun c2 => ?_) (fun c2 => ?_)
      · exact ih _ _ _ _ js6 (by have f0 := p_v1; have f1 := i_rg v1; omega) (by have f0 := p_v3; have f1 := i_rg v3; omega) (by have f0 := i_add (v4) ((1 : Int32)); have f1 := p_v4; have f2 := i_rg v4; have f3 : (1 : Int32).toInt = 1 := rfl; have f4 := i_nle c1; have f5 := j_rd hJ 1 1 0 8 rfl; omega) (by have g0 := i_add (v4) ((1 : Int32)); have g1 := p_v1; have g2 := i_rg v1; have g3 := p_v3; have g4 := i_rg v3; have g5 := p_v4; have g6 := i_rg v4; have g7 : (1 : Int32).toInt = 1 := rfl; have g8 := i_nle c1; have g9 := j_rd hJ 1 1 0 8 rfl; have g10 := hn; omega)
      · refine oq_b (h_X12_quarrelHouse _ _ js6.1 (by have f0 := p_v4; have f1 := i_rg v4; have f2 := i_nle c1; have f3 := j_rd hJ 1 1 0 8 rfl; omega) (by have f0 : (0 : Int32).toInt = 0 := rfl; omega)) (fun r7 s8 hs8 => ?_)
        have js8 : JM 4194304 s0 s8 := j_call js6 hs8.1 rfl
        refine oq_c (inr_of (by have f0 := hs8.2.1; have f1 := i_rg r7; have f2 := hs8.2.1.2; have f3 := p_v4; have f4 := i_rg v4; have f5 : (0 : Int32).toInt = 0 := rfl; have f6 := i_nle c1; have f7 := j_rd hJ 1 1 0 8 rfl; omega)) ?_
        refine oq_if (fun c3 => ?_) (fun c3 => ?_)
        · exact h_X12_wants_b65 _ n ih _ _ _ _ _ js8 (by have f0 := p_v1; have f1 := i_rg v1; have f2 := (hs6.2.2.2 c2).1; have f3 := (hs6.2.2.2 c2).2; have f4 := i_eq c3; have f5 : ((-1) : Int32).toInt = (-1) := rfl; have f6 : (7 : Int32).toInt = 7 := rfl; have f7 := rd_end js8 r7.toNatClampNeg (by have d0 := hs8.2.1; have d1 := i_rg r7; have d2 := hs8.2.1.2; have d3 := p_v4; have d4 := i_rg v4; have d5 : (0 : Int32).toInt = 0 := rfl; have d6 := i_nle c1; have d7 := j_rd hJ 1 1 0 8 rfl; have d8 := cl_nat (r7); omega); omega) (by have f0 := p_v3; have f1 := i_rg v3; omega) (by have f0 := p_v4; have f1 := i_rg v4; have f2 := i_nle c1; have f3 := j_rd hJ 1 1 0 8 rfl; omega) (by have f0 : (0 : Int32).toInt = 0 := rfl; omega) (by have g0 := p_v1; have g1 := i_rg v1; have g2 := p_v3; have g3 := i_rg v3; have g4 := p_v4; have g5 := i_rg v4; have g6 : (0 : Int32).toInt = 0 := rfl; have g7 := i_nle c1; have g8 := (hs6.2.2.2 c2).1; have g9 := (hs6.2.2.2 c2).2; have g10 := i_eq c3; have g11 := j_rd hJ 1 1 0 8 rfl; have g12 : ((-1) : Int32).toInt = (-1) := rfl; have g13 : (7 : Int32).toInt = 7 := rfl; have g14 := rd_end js8 r7.toNatClampNeg (by have d0 := hs8.2.1; have d1 := i_rg r7; have d2 := hs8.2.1.2; have d3 := p_v4; have d4 := i_rg v4; have d5 : (0 : Int32).toInt = 0 := rfl; have d6 := i_nle c1; have d7 := j_rd hJ 1 1 0 8 rfl; have d8 := cl_nat (r7); omega); have g15 : (s8.1 1 r7.toNatClampNeg).toInt = (s6.1 1 r7.toNatClampNeg).toInt := j_fa hs8.1 r7.toNatClampNeg rfl; have g16 := rd_end js6 r7.toNatClampNeg (by have d0 := hs8.2.1; have d1 := i_rg r7; have d2 := hs8.2.1.2; have d3 := p_v4; have d4 := i_rg v4; have d5 : (0 : Int32).toInt = 0 := rfl; have d6 := i_nle c1; have d7 := j_rd hJ 1 1 0 8 rfl; have d8 := cl_nat (r7); omega); have g17 : (s6.1 1 r7.toNatClampNeg).toInt = (s.1 1 r7.toNatClampNeg).toInt := j_fa hs6.1 r7.toNatClampNeg rfl; have g18 := rd_end hJ r7.toNatClampNeg (by have d0 := hs8.2.1; have d1 := i_rg r7; have d2 := hs8.2.1.2; have d3 := p_v4; have d4 := i_rg v4; have d5 : (0 : Int32).toInt = 0 := rfl; have d6 := i_nle c1; have d7 := j_rd hJ 1 1 0 8 rfl; have d8 := cl_nat (r7); omega); have g19 := hn; omega)
        · exact h_X12_wants_b65 _ n ih _ _ _ _ _ js8 (by have f0 := p_v1; have f1 := i_rg v1; have f2 := (hs6.2.2.2 c2).1; have f3 := (hs6.2.2.2 c2).2; have f4 := i_ne c3; have f5 : ((-1) : Int32).toInt = (-1) := rfl; have f6 : (7 : Int32).toInt = 7 := rfl; have f7 := rd_end js8 r7.toNatClampNeg (by have d0 := hs8.2.1; have d1 := i_rg r7; have d2 := hs8.2.1.2; have d3 := p_v4; have d4 := i_rg v4; have d5 : (0 : Int32).toInt = 0 := rfl; have d6 := i_nle c1; have d7 := j_rd hJ 1 1 0 8 rfl; have d8 := cl_nat (r7); omega); omega) (by have f0 := p_v3; have f1 := i_rg v3; omega) (by have f0 := p_v4; have f1 := i_rg v4; have f2 := i_nle c1; have f3 := j_rd hJ 1 1 0 8 rfl; omega) (by have f0 : (1 : Int32).toInt = 1 := rfl; omega) (by have g0 := p_v1; have g1 := i_rg v1; have g2 := p_v3; have g3 := i_rg v3; have g4 := p_v4; have g5 := i_rg v4; have g6 : (1 : Int32).toInt = 1 := rfl; have g7 := i_nle c1; have g8 := (hs6.2.2.2 c2).1; have g9 := (hs6.2.2.2 c2).2; have g10 := i_ne c3; have g11 := j_rd hJ 1 1 0 8 rfl; have g12 : ((-1) : Int32).toInt = (-1) := rfl; have g13 : (7 : Int32).toInt = 7 := rfl; have g14 := rd_end js8 r7.toNatClampNeg (by have d0 := hs8.2.1; have d1 := i_rg r7; have d2 := hs8.2.1.2; have d3 := p_v4; have d4 := i_rg v4; have d5 : (0 : Int32).toInt = 0 := rfl; have d6 := i_nle c1; have d7 := j_rd hJ 1 1 0 8 rfl; have d8 := cl_nat (r7); omega); have g15 : (s8.1 1 r7.toNatClampNeg).toInt = (s6.1 1 r7.toNatClampNeg).toInt := j_fa hs8.1 r7.toNatClampNeg rfl; have g16 := rd_end js6 r7.toNatClampNeg (by have d0 := hs8.2.1; have d1 := i_rg r7; have d2 := hs8.2.1.2; have d3 := p_v4; have d4 := i_rg v4; have d5 : (0 : Int32).toInt = 0 := rfl; have d6 := i_nle c1; have d7 := j_rd hJ 1 1 0 8 rfl; have d8 := cl_nat (r7); omega); have g17 : (s6.1 1 r7.toNatClampNeg).toInt = (s.1 1 r7.toNatClampNeg).toInt := j_fa hs6.1 r7.toNatClampNeg rfl; have g18 := rd_end hJ r7.toNatClampNeg (by have d0 := hs8.2.1; have d1 := i_rg r7; have d2 := hs8.2.1.2; have d3 := p_v4; have d4 := i_rg v4; have d5 : (0 : Int32).toInt = 0 := rfl; have d6 := i_nle c1; have d7 := j_rd hJ 1 1 0 8 rfl; have d8 := cl_nat (r7); omega); have g19 := hn; omega)
theorem h_X12_wants (a1 : Int32) {s : Sg} (hR : Rg rM s) : OQ (f_X12_wants a1 s) (fun r9 s9 => JM 4194304 s s9 ∧ True ∧ (r9 = 0 → True) ∧ (¬ r9 = 0 → True)) := by
  have hJ : JM 4194304 s s := j_refl hR
  unfold f_X12_wants
  refine oq_b (h_X12_wrongStep _ hJ.1) (fun r1 s2 hs2 => ?_)
  have js2 : JM 4194304 s s2 := j_call hJ hs2.1 rfl
  refine oq_if (fun c1 => ?_) (fun c1 => ?_)
  · exact h_X12_wants_b21 BIG _ _ _ _ js2 (by have f0 := i_rg a1; have f1 := hs2.2.1.2; have f2 := i_le c1; have f3 := hs2.2.1; have f4 := i_rg r1; have f5 : (0 : Int32).toInt = 0 := rfl; omega) (by have f0 : (0 : Int32).toInt = 0 := rfl; omega) (by have f0 : (0 : Int32).toInt = 0 := rfl; omega) (by have g0 := i_rg a1; have g1 : (0 : Int32).toInt = 0 := rfl; have g2 := hs2.2.1.2; have g3 := i_le c1; have g4 := hs2.2.1; have g5 := i_rg r1; have g6 : BIG = 4294967296 := rfl; omega)
  · refine oq_b (h_X12_refuse _ js2.1 (by have f0 := hs2.2.1; have f1 := i_rg r1; have f2 := hs2.2.1.2; have f3 := i_rg a1; have f4 := i_nle c1; have f5 : (0 : Int32).toInt = 0 := rfl; omega)) (fun r15 s16 hs16 => ?_)
    have js16 : JM 4194304 s s16 := j_call js2 hs16.1 rfl
    exact ⟨js16, trivial, fun w9 => False.elim (by have f0 := hs16.2.1; have f1 := i_rg r15; have f2 := i_eq w9; have f3 : (0 : Int32).toInt = 0 := rfl; omega), fun _ => trivial⟩
theorem h_X12_cliff_b4 {s0 : Sg} (n : Nat) : ∀ (v1 : Int32) (v2 : Int32) (s : Sg), JM 4194304 s0 s → 0 ≤ v1.toInt ∧ v1.toInt ≤ 2147483647 → 1 ≤ v2.toInt ∧ v2.toInt ≤ 8 → 8 - v2.toInt < (n : Int) → OQ (f_X12_cliff_b4 n v1 v2 s) (fun r9 s9 => JM 4194304 s0 s9 ∧ True ∧ (r9 = 0 → True) ∧ (¬ r9 = 0 → True)) := by
  induction n with
  | zero => intro v1 v2 s hJ p_v1 p_v2 hn; exact False.elim (by have g0 := hn; have g1 := p_v1; have g2 := p_v2; have g3 := i_rg v1; have g4 := i_rg v2; omega)
  | succ n ih =>
    intro v1 v2 s hJ p_v1 p_v2 hn
    unfold f_X12_cliff_b4
    refine oq_if (fun c1 => ?_) (fun c1 => ?_)
    · refine oq_b (h_X12_gives _ hJ.1) (fun r1 s2 hs2 => ?_)
      have js2 : JM 4194304 s0 s2 := j_call hJ hs2.1 rfl
      exact ⟨js2, trivial, fun _ => trivial, fun _ => trivial⟩
    · refine oq_b (h_X12_isGone _ hJ.1 (by have f0 := p_v2; have f1 := i_rg v2; have f2 := i_nle c1; have f3 := j_rd hJ 1 0 0 8 rfl; omega)) (fun r3 s4 hs4 => ?_)
      have js4 : JM 4194304 s0 s4 := j_call hJ hs4.1 rfl
      refine oq_if (fun c2 => ?_) (fun c2 => ?_)
      · refine oq_b (h_X12_isGone _ js4.1 (by have f0 := i_sub (v2) ((1 : Int32)); have f1 := p_v2; have f2 := i_rg v2; have f3 : (1 : Int32).toInt = 1 := rfl; have f4 := i_nle c1; have f5 := j_rd hJ 1 0 0 8 rfl; omega)) (fun r5 s6 hs6 => ?_)
        have js6 : JM 4194304 s0 s6 := j_call js4 hs6.1 rfl
        refine oq_if (fun c3 => ?_) (fun c3 => ?_)
        · refine oq_b (h_X12_grainsOn _ js6.1 (by have f0 := p_v2; have f1 := i_rg v2; have f2 := i_nle c1; have f3 := j_rd hJ 1 0 0 8 rfl; omega)) (fun r7 s8 hs8 => ?_)
          have js8 : JM 4194304 s0 s8 := j_call js6 hs8.1 rfl
          refine oq_b (h_X12_grainsOn _ js8.1 (by have f0 := i_sub (v2) ((1 : Int32)); have f1 := p_v2; have f2 := i_rg v2; have f3 : (1 : Int32).toInt = 1 := rfl; have f4 := i_nle c1; have f5 := j_rd hJ 1 0 0 8 rfl; omega)) (fun r9 s10 hs10 => ?_)
          have js10 : JM 4194304 s0 s10 := j_call js8 hs10.1 rfl
          refine oq_n (fun x11 ex11 => ?_)
          exact ih _ _ _ js10 (by have f0 := i_eq ex11; have f1 := i_sub (r7) (r9); have f2 := i_sub ((0 : Int32)) (r7 - r9); have f3 := ite_le ((0 : Int32)) (r7 - r9) (r7 - r9) (0 - (r7 - r9)); have f4 := ite_lt (v1) (if 0 ≤ (r7 - r9) then (r7 - r9) else 0 - (r7 - r9)) (if 0 ≤ (r7 - r9) then (r7 - r9) else 0 - (r7 - r9)) (v1); have f5 := i_rg x11; have f6 := p_v1; have f7 := i_rg v1; have f8 : (0 : Int32).toInt = 0 := rfl; have f9 := i_rg r7; have f10 := i_rg r9; omega) (by have f0 := i_add (v2) ((1 : Int32)); have f1 := p_v2; have f2 := i_rg v2; have f3 : (1 : Int32).toInt = 1 := rfl; have f4 := i_nle c1; have f5 := j_rd hJ 1 0 0 8 rfl; omega) (by have g0 := i_add (v2) ((1 : Int32)); have g1 := i_eq ex11; have g2 := i_sub (r7) (r9); have g3 := i_sub ((0 : Int32)) (r7 - r9); have g4 := ite_le ((0 : Int32)) (r7 - r9) (r7 - r9) (0 - (r7 - r9)); have g5 := ite_lt (v1) (if 0 ≤ (r7 - r9) then (r7 - r9) else 0 - (r7 - r9)) (if 0 ≤ (r7 - r9) then (r7 - r9) else 0 - (r7 - r9)) (v1); have g6 := i_rg x11; have g7 := p_v2; have g8 := i_rg v2; have g9 : (1 : Int32).toInt = 1 := rfl; have g10 := p_v1; have g11 := i_rg v1; have g12 : (0 : Int32).toInt = 0 := rfl; have g13 := i_rg r7; have g14 := i_rg r9; have g15 := i_nle c1; have g16 := j_rd hJ 1 0 0 8 rfl; have g17 := hn; omega)
        · exact ih _ _ _ js6 (by have f0 := p_v1; have f1 := i_rg v1; omega) (by have f0 := i_add (v2) ((1 : Int32)); have f1 := p_v2; have f2 := i_rg v2; have f3 : (1 : Int32).toInt = 1 := rfl; have f4 := i_nle c1; have f5 := j_rd hJ 1 0 0 8 rfl; omega) (by have g0 := i_add (v2) ((1 : Int32)); have g1 := p_v1; have g2 := i_rg v1; have g3 := p_v2; have g4 := i_rg v2; have g5 : (1 : Int32).toInt = 1 := rfl; have g6 := i_nle c1; have g7 := j_rd hJ 1 0 0 8 rfl; have g8 := hn; omega)
      · exact ih _ _ _ js4 (by have f0 := p_v1; have f1 := i_rg v1; omega) (by have f0 := i_add (v2) ((1 : Int32)); have f1 := p_v2; have f2 := i_rg v2; have f3 : (1 : Int32).toInt = 1 := rfl; have f4 := i_nle c1; have f5 := j_rd hJ 1 0 0 8 rfl; omega) (by have g0 := i_add (v2) ((1 : Int32)); have g1 := p_v1; have g2 := i_rg v1; have g3 := p_v2; have g4 := i_rg v2; have g5 : (1 : Int32).toInt = 1 := rfl; have g6 := i_nle c1; have g7 := j_rd hJ 1 0 0 8 rfl; have g8 := hn; omega)
theorem h_X12_cliff  {s : Sg} (hR : Rg rM s) : OQ (f_X12_cliff  s) (fun r9 s9 => JM 4194304 s s9 ∧ True ∧ (r9 = 0 → True) ∧ (¬ r9 = 0 → True)) := by
  have hJ : JM 4194304 s s := j_refl hR
  unfold f_X12_cliff
  exact h_X12_cliff_b4 BIG _ _ _ hJ (by have f0 : (0 : Int32).toInt = 0 := rfl; omega) (by have f0 : (1 : Int32).toInt = 1 := rfl; omega) (by have g0 : (0 : Int32).toInt = 0 := rfl; have g1 : (1 : Int32).toInt = 1 := rfl; have g2 : BIG = 4294967296 := rfl; omega)
theorem h_X12_steps_b106 {s0 : Sg} (k_19 : Int32 → Int32 → Int32 → Sg → Option (Int32 × Sg)) (m_19 : Nat) (hk_19 : ∀ (v1 : Int32) (v2 : Int32) (v3 : Int32) (s : Sg), JM 4194304 s0 s → 0 ≤ v1.toInt ∧ v1.toInt ≤ 2 → 0 ≤ v3.toInt ∧ v3.toInt ≤ 8 → 8 - v3.toInt < (m_19 : Int) → OQ (k_19 v1 v2 v3 s) (fun r9 s9 => JM 4194304 s0 s9 ∧ True ∧ (r9 = 0 → True) ∧ (¬ r9 = 0 → True))) (v1 : Int32) (v2 : Int32) (v3 : Int32) (t0 : Int32) (s : Sg) (hJ : JM 4194304 s0 s) (p_v1 : 0 ≤ v1.toInt ∧ v1.toInt ≤ 2) (p_v3 : 0 ≤ v3.toInt ∧ v3.toInt ≤ 7) (p_t0 : 0 ≤ t0.toInt ∧ t0.toInt ≤ 1) (hm_19 : 8 - v3.toInt < (m_19 : Int) + 1) : OQ (f_X12_steps_b106 k_19 v1 v2 v3 t0 s) (fun r9 s9 => JM 4194304 s0 s9 ∧ True ∧ (r9 = 0 → True) ∧ (¬ r9 = 0 → True)) := by
  unfold f_X12_steps_b106
  refine oq_b (h_X12_isGone _ hJ.1 (by have f0 := p_v3; have f1 := i_rg v3; omega)) (fun r13 s14 hs14 => ?_)
  have js14 : JM 4194304 s0 s14 := j_call hJ hs14.1 rfl
  refine oq_if (fun c1 => ?_) (fun c1 => ?_)
  · refine oq_if (fun c2 => ?_) (fun c2 => ?_)
    · exact hk_19 _ _ _ _ js14 (by have f0 := p_v1; have f1 := i_rg v1; omega) (by have f0 := i_add (v3) ((1 : Int32)); have f1 := p_v3; have f2 := i_rg v3; have f3 : (1 : Int32).toInt = 1 := rfl; omega) (by have g0 := i_add (v2) ((0 : Int32)); have g1 := i_add (v3) ((1 : Int32)); have g2 := p_v1; have g3 := i_rg v1; have g4 := i_rg v2; have g5 : (0 : Int32).toInt = 0 := rfl; have g6 := p_v3; have g7 := i_rg v3; have g8 : (1 : Int32).toInt = 1 := rfl; have g9 := hm_19; omega)
    · exact hk_19 _ _ _ _ js14 (by have f0 := p_v1; have f1 := i_rg v1; omega) (by have f0 := i_add (v3) ((1 : Int32)); have f1 := p_v3; have f2 := i_rg v3; have f3 : (1 : Int32).toInt = 1 := rfl; omega) (by have g0 := i_add (v2) ((1 : Int32)); have g1 := i_add (v3) ((1 : Int32)); have g2 := p_v1; have g3 := i_rg v1; have g4 := i_rg v2; have g5 : (1 : Int32).toInt = 1 := rfl; have g6 := p_v3; have g7 := i_rg v3; have g8 := hm_19; omega)
  · exact hk_19 _ _ _ _ js14 (by have f0 := p_v1; have f1 := i_rg v1; omega) (by have f0 := i_add (v3) ((1 : Int32)); have f1 := p_v3; have f2 := i_rg v3; have f3 : (1 : Int32).toInt = 1 := rfl; omega) (by have g0 := i_add (v2) ((0 : Int32)); have g1 := i_add (v3) ((1 : Int32)); have g2 := p_v1; have g3 := i_rg v1; have g4 := i_rg v2; have g5 : (0 : Int32).toInt = 0 := rfl; have g6 := p_v3; have g7 := i_rg v3; have g8 : (1 : Int32).toInt = 1 := rfl; have g9 := hm_19; omega)
theorem h_X12_steps_b19 {s0 : Sg} (n : Nat) : ∀ (v1 : Int32) (v2 : Int32) (v3 : Int32) (s : Sg), JM 4194304 s0 s → 0 ≤ v1.toInt ∧ v1.toInt ≤ 2 → 0 ≤ v3.toInt ∧ v3.toInt ≤ 8 → 8 - v3.toInt < (n : Int) → OQ (f_X12_steps_b19 n v1 v2 v3 s) (fun r9 s9 => JM 4194304 s0 s9 ∧ True ∧ (r9 = 0 → True) ∧ (¬ r9 = 0 → True)) := by
  induction n with
  | zero => intro v1 v2 v3 s hJ p_v1 p_v3 hn; exact False.elim (by have g0 := hn; have g1 := p_v1; have g2 := p_v3; have g3 := i_rg v1; have g4 := i_rg v2; have g5 := i_rg v3; omega)
  | succ n ih =>
    intro v1 v2 v3 s hJ p_v1 p_v3 hn
    unfold f_X12_steps_b19
    refine oq_if (fun c1 => ?_) (fun c1 => ?_)
    · refine oq_b (h_X12_gives _ hJ.1) (fun r3 s4 hs4 => ?_)
      have js4 : JM 4194304 s0 s4 := j_call hJ hs4.1 rfl
      exact ⟨js4, trivial, fun _ => trivial, fun _ => trivial⟩
    · refine oq_b (h_X12_houseRow _ hJ.1 (by have f0 := p_v3; have f1 := i_rg v3; have f2 := i_nle c1; have f3 := j_rd hJ 1 0 0 8 rfl; omega)) (fun r5 s6 hs6 => ?_)
      have js6 : JM 4194304 s0 s6 := j_call hJ hs6.1 rfl
      refine oq_c (inr_of (by have f0 := i_add (r5) ((1 : Int32)); have f1 := hs6.2.1; have f2 := i_rg r5; have f3 := hs6.2.1.2; have f4 : (1 : Int32).toInt = 1 := rfl; have f5 := p_v3; have f6 := i_rg v3; have f7 := i_nle c1; have f8 := j_rd hJ 1 0 0 8 rfl; omega)) ?_
      refine oq_n (fun x8 ex8 => ?_)
      refine oq_b (h_X12_houseRow _ js6.1 (by have f0 := p_v3; have f1 := i_rg v3; have f2 := i_nle c1; have f3 := j_rd hJ 1 0 0 8 rfl; omega)) (fun r9 s10 hs10 => ?_)
      have js10 : JM 4194304 s0 s10 := j_call js6 hs10.1 rfl
      refine oq_c (inr_of (by have f0 := i_add (r9) ((2 : Int32)); have f1 := hs10.2.1; have f2 := i_rg r9; have f3 := hs10.2.1.2; have f4 : (2 : Int32).toInt = 2 := rfl; have f5 := p_v3; have f6 := i_rg v3; have f7 := i_nle c1; have f8 := j_rd hJ 1 0 0 8 rfl; omega)) ?_
      refine oq_n (fun x12 ex12 => ?_)
      refine oq_if (fun c2 => ?_) (fun c2 => ?_)
      · refine oq_if (fun c3 => ?_) (fun c3 => ?_)
        · exact h_X12_steps_b106 _ n ih _ _ _ _ _ js10 (by have f0 := p_v1; have f1 := i_rg v1; have f2 := i_eq c2; have f3 : (0 : Int32).toInt = 0 := rfl; omega) (by have f0 := p_v3; have f1 := i_rg v3; have f2 := i_nle c1; have f3 := j_rd hJ 1 0 0 8 rfl; omega) (by have f0 : (0 : Int32).toInt = 0 := rfl; omega) (by have g0 := p_v1; have g1 := i_rg v1; have g2 := i_rg v2; have g3 := p_v3; have g4 := i_rg v3; have g5 : (0 : Int32).toInt = 0 := rfl; have g6 := i_nle c1; have g7 := i_eq c2; have g8 := j_rd hJ 1 0 0 8 rfl; have g9 := hn; omega)
        · exact h_X12_steps_b106 _ n ih _ _ _ _ _ js10 (by have f0 := p_v1; have f1 := i_rg v1; have f2 := i_eq c2; have f3 : (0 : Int32).toInt = 0 := rfl; omega) (by have f0 := p_v3; have f1 := i_rg v3; have f2 := i_nle c1; have f3 := j_rd hJ 1 0 0 8 rfl; omega) (by have f0 : (1 : Int32).toInt = 1 := rfl; omega) (by have g0 := p_v1; have g1 := i_rg v1; have g2 := i_rg v2; have g3 := p_v3; have g4 := i_rg v3; have g5 : (1 : Int32).toInt = 1 := rfl; have g6 := i_nle c1; have g7 := i_eq c2; have g8 := j_rd hJ 1 0 0 8 rfl; have g9 : (0 : Int32).toInt = 0 := rfl; have g10 := hn; omega)
      · refine oq_if (fun c4 => ?_) (fun c4 => ?_)
        · refine oq_if (fun c5 => ?_) (fun c5 => ?_)
          · exact h_X12_steps_b106 _ n ih _ _ _ _ _ js10 (by have f0 := p_v1; have f1 := i_rg v1; have f2 := i_ne c2; have f3 := i_eq c4; have f4 : (0 : Int32).toInt = 0 := rfl; have f5 : (1 : Int32).toInt = 1 := rfl; omega) (by have f0 := p_v3; have f1 := i_rg v3; have f2 := i_nle c1; have f3 := j_rd hJ 1 0 0 8 rfl; omega) (by have f0 : (0 : Int32).toInt = 0 := rfl; omega) (by have g0 := p_v1; have g1 := i_rg v1; have g2 := i_rg v2; have g3 := p_v3; have g4 := i_rg v3; have g5 : (0 : Int32).toInt = 0 := rfl; have g6 := i_nle c1; have g7 := i_ne c2; have g8 := i_eq c4; have g9 := j_rd hJ 1 0 0 8 rfl; have g10 : (1 : Int32).toInt = 1 := rfl; have g11 := hn; omega)
          · exact h_X12_steps_b106 _ n ih _ _ _ _ _ js10 (by have f0 := p_v1; have f1 := i_rg v1; have f2 := i_ne c2; have f3 := i_eq c4; have f4 : (0 : Int32).toInt = 0 := rfl; have f5 : (1 : Int32).toInt = 1 := rfl; omega) (by have f0 := p_v3; have f1 := i_rg v3; have f2 := i_nle c1; have f3 := j_rd hJ 1 0 0 8 rfl; omega) (by have f0 : (1 : Int32).toInt = 1 := rfl; omega) (by have g0 := p_v1; have g1 := i_rg v1; have g2 := i_rg v2; have g3 := p_v3; have g4 := i_rg v3; have g5 : (1 : Int32).toInt = 1 := rfl; have g6 := i_nle c1; have g7 := i_ne c2; have g8 := i_eq c4; have g9 := j_rd hJ 1 0 0 8 rfl; have g10 : (0 : Int32).toInt = 0 := rfl; have g11 := hn; omega)
        · refine oq_b (h_X12_grainsOn _ js10.1 (by have f0 := p_v3; have f1 := i_rg v3; have f2 := i_nle c1; have f3 := j_rd hJ 1 0 0 8 rfl; omega)) (fun r15 s16 hs16 => ?_)
          have js16 : JM 4194304 s0 s16 := j_call js10 hs16.1 rfl
          refine oq_if (fun c6 => ?_) (fun c6 => ?_)
          · exact h_X12_steps_b106 _ n ih _ _ _ _ _ js16 (by have f0 := p_v1; have f1 := i_rg v1; have f2 := i_ne c2; have f3 := i_ne c4; have f4 : (0 : Int32).toInt = 0 := rfl; have f5 : (1 : Int32).toInt = 1 := rfl; omega) (by have f0 := p_v3; have f1 := i_rg v3; have f2 := i_nle c1; have f3 := j_rd hJ 1 0 0 8 rfl; omega) (by have f0 : (1 : Int32).toInt = 1 := rfl; omega) (by have g0 := p_v1; have g1 := i_rg v1; have g2 := i_rg v2; have g3 := p_v3; have g4 := i_rg v3; have g5 : (1 : Int32).toInt = 1 := rfl; have g6 := i_nle c1; have g7 := i_ne c2; have g8 := i_ne c4; have g9 := j_rd hJ 1 0 0 8 rfl; have g10 : (0 : Int32).toInt = 0 := rfl; have g11 := hn; omega)
          · exact h_X12_steps_b106 _ n ih _ _ _ _ _ js16 (by have f0 := p_v1; have f1 := i_rg v1; have f2 := i_ne c2; have f3 := i_ne c4; have f4 : (0 : Int32).toInt = 0 := rfl; have f5 : (1 : Int32).toInt = 1 := rfl; omega) (by have f0 := p_v3; have f1 := i_rg v3; have f2 := i_nle c1; have f3 := j_rd hJ 1 0 0 8 rfl; omega) (by have f0 : (0 : Int32).toInt = 0 := rfl; omega) (by have g0 := p_v1; have g1 := i_rg v1; have g2 := i_rg v2; have g3 := p_v3; have g4 := i_rg v3; have g5 : (0 : Int32).toInt = 0 := rfl; have g6 := i_nle c1; have g7 := i_ne c2; have g8 := i_ne c4; have g9 := j_rd hJ 1 0 0 8 rfl; have g10 : (1 : Int32).toInt = 1 := rfl; have g11 := hn; omega)
theorem h_X12_steps (a1 : Int32) {s : Sg} (hR : Rg rM s) : OQ (f_X12_steps a1 s) (fun r9 s9 => JM 4194304 s s9 ∧ True ∧ (r9 = 0 → True) ∧ (¬ r9 = 0 → True)) := by
  have hJ : JM 4194304 s s := j_refl hR
  unfold f_X12_steps
  refine oq_if (fun c1 => ?_) (fun c1 => ?_)
  · refine oq_b (h_X12_refuse _ hJ.1 (by have f0 : (1 : Int32).toInt = 1 := rfl; omega)) (fun r1 s2 hs2 => ?_)
    have js2 : JM 4194304 s s2 := j_call hJ hs2.1 rfl
    exact ⟨js2, trivial, fun w9 => False.elim (by have f0 := hs2.2.1; have f1 := i_rg r1; have f2 := i_eq w9; have f3 : (0 : Int32).toInt = 0 := rfl; omega), fun _ => trivial⟩
  · refine oq_if (fun c2 => ?_) (fun c2 => ?_)
    · exact h_X12_steps_b19 BIG _ _ _ _ hJ (by have f0 := i_rg a1; have f1 := i_nlt c1; have f2 := i_le c2; have f3 : (0 : Int32).toInt = 0 := rfl; have f4 : (2 : Int32).toInt = 2 := rfl; omega) (by have f0 : (0 : Int32).toInt = 0 := rfl; omega) (by have g0 := i_rg a1; have g1 : (0 : Int32).toInt = 0 := rfl; have g2 := i_nlt c1; have g3 := i_le c2; have g4 : (2 : Int32).toInt = 2 := rfl; have g5 : BIG = 4294967296 := rfl; omega)
    · refine oq_b (h_X12_refuse _ hJ.1 (by have f0 : (1 : Int32).toInt = 1 := rfl; omega)) (fun r17 s18 hs18 => ?_)
      have js18 : JM 4194304 s s18 := j_call hJ hs18.1 rfl
      exact ⟨js18, trivial, fun w9 => False.elim (by have f0 := hs18.2.1; have f1 := i_rg r17; have f2 := i_eq w9; have f3 : (0 : Int32).toInt = 0 := rfl; omega), fun _ => trivial⟩
theorem h_X12_costOf_b88 {s0 : Sg} (k_26 : Int32 → Int32 → Int32 → Int32 → Sg → Option (Int32 × Sg)) (m_26 : Nat) (hk_26 : ∀ (v2 : Int32) (v3 : Int32) (v4 : Int32) (v5 : Int32) (s : Sg), JM 140737488355328 s0 s → 1 ≤ v4.toInt ∧ v4.toInt ≤ 99 → 0 ≤ v5.toInt ∧ v5.toInt ≤ 4 → 167 - v4.toInt < (m_12 : Int) + 1 → 4 - v5.toInt < (m_26 : Int) → OQ (k_26 v2 v3 v4 v5 s) (fun r9 s9 => JM 140737488355328 s0 s9 ∧ True ∧ (r9 = 0 → True) ∧ (¬ r9 = 0 → True))) (v2 : Int32) (v3 : Int32) (v4 : Int32) (v5 : Int32) (v7 : Int32) (s : Sg) (hJ : JM 140737488355328 s0 s) (p_v4 : 1 ≤ v4.toInt ∧ v4.toInt ≤ 99) (p_v5 : 0 ≤ v5.toInt ∧ v5.toInt ≤ 3) (hm_26 : 4 - v5.toInt < (m_26 : Int) + 1) : OQ (f_X12_costOf_b88 k_26 v2 v3 v4 v5 v7 s) (fun r9 s9 => JM 140737488355328 s0 s9 ∧ True ∧ (r9 = 0 → True) ∧ (¬ r9 = 0 → True)) := by
  unfold f_X12_costOf_b88
  exact hk_26 _ _ _ _ _ hJ (by have f0 := p_v4; have f1 := i_rg v4; omega) (by have f0 := i_add (v5) ((1 : Int32)); have f1 := p_v5; have f2 := i_rg v5; have f3 : (1 : Int32).toInt = 1 := rfl; omega) (by have g0 := i_sub (v2) (v7); have g1 := i_add (v3) (v7 * v4); have g2 := i_add (v5) ((1 : Int32)); have g3 := i_rg v2; have g4 := i_rg v7; have g5 := i_rg v3; have g6 := p_v4; have g7 := i_rg v4; have g8 := p_v5; have g9 := i_rg v5; have g10 : (1 : Int32).toInt = 1 := rfl; have g11 := hm_12; omega) (by have g0 := i_sub (v2) (v7); have g1 := i_add (v3) (v7 * v4); have g2 := i_add (v5) ((1 : Int32)); have g3 := i_rg v2; have g4 := i_rg v7; have g5 := i_rg v3; have g6 := p_v4; have g7 := i_rg v4; have g8 := p_v5; have g9 := i_rg v5; have g10 : (1 : Int32).toInt = 1 := rfl; have g11 := hm_26; omega)
theorem h_X12_costOf_b75 {s0 : Sg} (k_26 : Int32 → Int32 → Int32 → Int32 → Sg → Option (Int32 × Sg)) (m_26 : Nat) (hk_26 : ∀ (v2 : Int32) (v3 : Int32) (v4 : Int32) (v5 : Int32) (s : Sg), JM 140737488355328 s0 s → 1 ≤ v4.toInt ∧ v4.toInt ≤ 99 → 0 ≤ v5.toInt ∧ v5.toInt ≤ 4 → 167 - v4.toInt < (m_12 : Int) + 1 → 4 - v5.toInt < (m_26 : Int) → OQ (k_26 v2 v3 v4 v5 s) (fun r9 s9 => JM 140737488355328 s0 s9 ∧ True ∧ (r9 = 0 → True) ∧ (¬ r9 = 0 → True))) (v2 : Int32) (v3 : Int32) (v4 : Int32) (v5 : Int32) (t0 : Int32) (s : Sg) (hJ : JM 140737488355328 s0 s) (p_v4 : 1 ≤ v4.toInt ∧ v4.toInt ≤ 99) (p_v5 : 0 ≤ v5.toInt ∧ v5.toInt ≤ 3) (hm_26 : 4 - v5.toInt < (m_26 : Int) + 1) : OQ (f_X12_costOf_b75 k_26 v2 v3 v4 v5 t0 s) (fun r9 s9 => JM 140737488355328 s0 s9 ∧ True ∧ (r9 = 0 → True) ∧ (¬ r9 = 0 → True)) := by
  unfold f_X12_costOf_b75
  refine oq_if (fun c1 => ?_) (fun c1 => ?_)
  · exact h_X12_costOf_b88 _ m_26 hk_26 _ _ _ _ _ _ hJ (by have f0 := p_v4; have f1 := i_rg v4; omega) (by have f0 := p_v5; have f1 := i_rg v5; omega) (by have g0 := i_rg v2; have g1 := i_rg v3; have g2 := p_v4; have g3 := i_rg v4; have g4 := p_v5; have g5 := i_rg v5; have g6 := i_rg t0; have g7 := i_le c1; have g8 : (0 : Int32).toInt = 0 := rfl; have g9 := hm_26; omega)
  · exact h_X12_costOf_b88 _ m_26 hk_26 _ _ _ _ _ _ (j_wf hJ rfl 47 rfl rfl) (by have f0 := p_v4; have f1 := i_rg v4; omega) (by have f0 := p_v5; have f1 := i_rg v5; omega) (by have g0 := i_rg v2; have g1 := i_rg v3; have g2 := p_v4; have g3 := i_rg v4; have g4 := p_v5; have g5 := i_rg v5; have g6 := i_rg t0; have g7 := i_nle c1; have g8 : (0 : Int32).toInt = 0 := rfl; have g9 := hm_26; omega)
theorem h_X12_costOf_b26 {s0 : Sg} (k_12 : Int32 → Int32 → Int32 → Sg → Option (Int32 × Sg)) (m_12 : Nat) (hk_12 : ∀ (v2 : Int32) (v3 : Int32) (v4 : Int32) (s : Sg), JM 140737488355328 s0 s → 1 ≤ v4.toInt ∧ v4.toInt ≤ 167 → 167 - v4.toInt < (m_12 : Int) → OQ (k_12 v2 v3 v4 s) (fun r9 s9 => JM 140737488355328 s0 s9 ∧ True ∧ (r9 = 0 → True) ∧ (¬ r9 = 0 → True))) (n : Nat) : ∀ (v2 : Int32) (v3 : Int32) (v4 : Int32) (v5 : Int32) (s : Sg), JM 140737488355328 s0 s → 1 ≤ v4.toInt ∧ v4.toInt ≤ 99 → 0 ≤ v5.toInt ∧ v5.toInt ≤ 4 → 167 - v4.toInt < (m_12 : Int) + 1 → 4 - v5.toInt < (n : Int) → OQ (f_X12_costOf_b26 k_12 n v2 v3 v4 v5 s) (fun r9 s9 => JM 140737488355328 s0 s9 ∧ True ∧ (r9 = 0 → True) ∧ (¬ r9 = 0 → True)) := by
  induction n with
  | zero => intro v2 v3 v4 v5 s hJ p_v4 p_v5 hm_12 hn; exact False.elim (by have g0 := hn; have g1 := p_v4; have g2 := p_v5; have g3 := i_rg v2; have g4 := i_rg v3; have g5 := i_rg v4; have g6 := i_rg v5; omega)
  | succ n ih =>
    intro v2 v3 v4 v5 s hJ p_v4 p_v5 hm_12 hn
    unfold f_X12_costOf_b26
    refine oq_if (fun c1 => ?_) (fun c1 => ?_)
    · exact hk_12 _ _ _ _ hJ (by have f0 := i_add (v4) ((1 : Int32)); have f1 := p_v4; have f2 := i_rg v4; have f3 : (1 : Int32).toInt = 1 := rfl; omega) (by have g0 := i_add (v4) ((1 : Int32)); have g1 := i_rg v2; have g2 := i_rg v3; have g3 := p_v4; have g4 := i_rg v4; have g5 : (1 : Int32).toInt = 1 := rfl; have g6 := hm_12; omega)
    · refine oq_c (inr_of (by have f0 := i_mul ((3 : Int32)) (v5); have f1 := i_add ((92 : Int32)) (3 * v5); have f2 := i_add (92 + (3 * v5)) ((1 : Int32)); have f3 : (92 : Int32).toInt = 92 := rfl; have f4 : (3 : Int32).toInt = 3 := rfl; have f5 := p_v5; have f6 := i_rg v5; have f7 : (1 : Int32).toInt = 1 := rfl; have f8 := i_nle c1; have f9 := j_rd hJ 1 3 0 4 rfl; omega)) ?_
      refine oq_if (fun c2 => ?_) (fun c2 => ?_)
      · refine oq_c (inr_of (by have f0 := i_mul ((3 : Int32)) (v5); have f1 := i_add ((92 : Int32)) (3 * v5); have f2 : (92 : Int32).toInt = 92 := rfl; have f3 : (3 : Int32).toInt = 3 := rfl; have f4 := p_v5; have f5 := i_rg v5; have f6 := i_nle c1; have f7 := j_rd hJ 1 3 0 4 rfl; omega)) ?_
        exact h_X12_costOf_b75 _ n ih _ _ _ _ _ _ hJ (by have f0 := p_v4; have f1 := i_rg v4; have f2 := i_eq c2; have f3 := i_rg (s.1 1 (((92 + (3 * v5)) + 1).toNatClampNeg)); omega) (by have f0 := p_v5; have f1 := i_rg v5; have f2 := i_nle c1; have f3 := j_rd hJ 1 3 0 4 rfl; omega) (by have g0 := ite_lt (s.1 1 ((92 + (3 * v5)).toNatClampNeg)) (v2) (s.1 1 ((92 + (3 * v5)).toNatClampNeg)) (v2); have g1 := i_rg v2; have g2 := i_rg v3; have g3 := p_v4; have g4 := i_rg v4; have g5 := p_v5; have g6 := i_rg v5; have g7 := i_rg (s.1 1 ((92 + (3 * v5)).toNatClampNeg)); have g8 := i_nle c1; have g9 := i_eq c2; have g10 := j_rd hJ 1 3 0 4 rfl; have g11 := i_rg (s.1 1 (((92 + (3 * v5)) + 1).toNatClampNeg)); have g12 := hn; omega)
      · exact h_X12_costOf_b75 _ n ih _ _ _ _ _ _ hJ (by have f0 := p_v4; have f1 := i_rg v4; have f2 := i_ne c2; have f3 := i_rg (s.1 1 (((92 + (3 * v5)) + 1).toNatClampNeg)); omega) (by have f0 := p_v5; have f1 := i_rg v5; have f2 := i_nle c1; have f3 := j_rd hJ 1 3 0 4 rfl; omega) (by have g0 := i_rg v2; have g1 := i_rg v3; have g2 := p_v4; have g3 := i_rg v4; have g4 := p_v5; have g5 := i_rg v5; have g6 : (0 : Int32).toInt = 0 := rfl; have g7 := i_nle c1; have g8 := i_ne c2; have g9 := j_rd hJ 1 3 0 4 rfl; have g10 := i_rg (s.1 1 (((92 + (3 * v5)) + 1).toNatClampNeg)); have g11 := hn; omega)
theorem h_X12_costOf_b12 {s0 : Sg} (n : Nat) : ∀ (v2 : Int32) (v3 : Int32) (v4 : Int32) (s : Sg), JM 140737488355328 s0 s → 1 ≤ v4.toInt ∧ v4.toInt ≤ 167 → 167 - v4.toInt < (n : Int) → OQ (f_X12_costOf_b12 n v2 v3 v4 s) (fun r9 s9 => JM 140737488355328 s0 s9 ∧ True ∧ (r9 = 0 → True) ∧ (¬ r9 = 0 → True)) := by
  induction n with
  | zero => intro v2 v3 v4 s hJ p_v4 hn; exact False.elim (by have g0 := hn; have g1 := p_v4; have g2 := i_rg v2; have g3 := i_rg v3; have g4 := i_rg v4; omega)
  | succ n ih =>
    intro v2 v3 v4 s hJ p_v4 hn
    unfold f_X12_costOf_b12
    refine oq_if (fun c1 => ?_) (fun c1 => ?_)
    · refine oq_if (fun c2 => ?_) (fun c2 => ?_)
      · exact ⟨hJ, trivial, fun _ => trivial, fun _ => trivial⟩
      · exact ⟨hJ, trivial, fun w9 => absurd w9 (by decide), fun _ => trivial⟩
    · refine oq_if (fun c3 => ?_) (fun c3 => ?_)
      · refine oq_if (fun c4 => ?_) (fun c4 => ?_)
        · exact ⟨hJ, trivial, fun _ => trivial, fun _ => trivial⟩
        · exact False.elim (by have f0 := i_rg v2; have f1 : (0 : Int32).toInt = 0 := rfl; have f2 := i_le c3; have f3 := i_nle c4; omega)
      · exact h_X12_costOf_b26 _ n ih BIG _ _ _ _ _ hJ (by have f0 := p_v4; have f1 := i_rg v4; have f2 := i_nle c1; have f3 : (100 : Int32).toInt = 100 := rfl; omega) (by have f0 : (0 : Int32).toInt = 0 := rfl; omega) (by have g0 := i_rg v2; have g1 := i_rg v3; have g2 := p_v4; have g3 := i_rg v4; have g4 : (0 : Int32).toInt = 0 := rfl; have g5 := i_nle c1; have g6 := i_nle c3; have g7 : (100 : Int32).toInt = 100 := rfl; have g8 := hn; omega) (by have g0 := i_rg v2; have g1 := i_rg v3; have g2 := p_v4; have g3 := i_rg v4; have g4 : (0 : Int32).toInt = 0 := rfl; have g5 := i_nle c1; have g6 := i_nle c3; have g7 : (100 : Int32).toInt = 100 := rfl; have g8 : BIG = 4294967296 := rfl; omega)
theorem h_X12_costOf (a1 : Int32) {s : Sg} (hR : Rg rM s) : OQ (f_X12_costOf a1 s) (fun r9 s9 => JM 140737488355328 s s9 ∧ True ∧ (r9 = 0 → True) ∧ (¬ r9 = 0 → True)) := by
  have hJ : JM 140737488355328 s s := j_refl hR
  unfold f_X12_costOf
  exact h_X12_costOf_b12 BIG _ _ _ _ (j_wf hJ rfl 47 rfl rfl) (by have f0 : (1 : Int32).toInt = 1 := rfl; omega) (by have g0 := i_rg a1; have g1 : (0 : Int32).toInt = 0 := rfl; have g2 : (1 : Int32).toInt = 1 := rfl; have g3 : BIG = 4294967296 := rfl; omega)
theorem h_X12_value (a1 : Int32) {s : Sg} (hR : Rg rM s) : OQ (f_X12_value a1 s) (fun r9 s9 => JM 140737492549632 s s9 ∧ True ∧ (r9 = 0 → True) ∧ (¬ r9 = 0 → True)) := by
  have hJ : JM 140737492549632 s s := j_refl hR
  unfold f_X12_value
  refine oq_b (h_X12_wrongStep _ hJ.1) (fun r1 s2 hs2 => ?_)
  have js2 : JM 140737492549632 s s2 := j_call hJ hs2.1 rfl
  refine oq_if (fun c1 => ?_) (fun c1 => ?_)
  · refine oq_b (h_X12_grainsOn _ js2.1 (by have f0 := i_rg a1; have f1 := hs2.2.1.2; have f2 := i_le c1; have f3 := hs2.2.1; have f4 := i_rg r1; have f5 : (0 : Int32).toInt = 0 := rfl; omega)) (fun r3 s4 hs4 => ?_)
    have js4 : JM 140737492549632 s s4 := j_call js2 hs4.1 rfl
    refine oq_b (h_X12_costOf _ js4.1) (fun r5 s6 hs6 => ?_)
    have js6 : JM 140737492549632 s s6 := j_call js4 hs6.1 rfl
    refine oq_b (h_X12_orNone _ js6.1) (fun r7 s8 hs8 => ?_)
    have js8 : JM 140737492549632 s s8 := j_call js6 hs8.1 rfl
    exact ⟨js8, trivial, fun _ => trivial, fun _ => trivial⟩
  · refine oq_b (h_X12_refuse _ js2.1 (by have f0 := hs2.2.1; have f1 := i_rg r1; have f2 := hs2.2.1.2; have f3 := i_rg a1; have f4 := i_nle c1; have f5 : (0 : Int32).toInt = 0 := rfl; omega)) (fun r9 s10 hs10 => ?_)
    have js10 : JM 140737492549632 s s10 := j_call js2 hs10.1 rfl
    exact ⟨js10, trivial, fun w9 => False.elim (by have f0 := hs10.2.1; have f1 := i_rg r9; have f2 := i_eq w9; have f3 : (0 : Int32).toInt = 0 := rfl; omega), fun _ => trivial⟩
theorem h_X12_beside_b30 {s0 : Sg} (v1 : Int32) (t0 : Int32) (s : Sg) (hJ : JM 4194304 s0 s) (p_v1 : 0 ≤ v1.toInt ∧ v1.toInt ≤ 7) : OQ (f_X12_beside_b30 v1 t0 s) (fun r9 s9 => JM 4194304 s0 s9 ∧ True ∧ (r9 = 0 → True) ∧ (¬ r9 = 0 → True)) := by
  unfold f_X12_beside_b30
  refine oq_b (h_X12_isHouse _ hJ.1) (fun r5 s6 hs6 => ?_)
  have js6 : JM 4194304 s0 s6 := j_call hJ hs6.1 rfl
  refine oq_if (fun c1 => ?_) (fun c1 => ?_)
  · refine oq_b (h_X12_gives _ js6.1) (fun r7 s8 hs8 => ?_)
    have js8 : JM 4194304 s0 s8 := j_call js6 hs8.1 rfl
    exact ⟨js8, trivial, fun _ => trivial, fun _ => trivial⟩
  · refine oq_b (h_X12_grainsOn _ js6.1 (by have f0 := i_add (v1) ((1 : Int32)); have f1 := p_v1; have f2 := i_rg v1; have f3 : (1 : Int32).toInt = 1 := rfl; have f4 := (hs6.2.2.2 c1).1; have f5 := (hs6.2.2.2 c1).2; have f6 : (0 : Int32).toInt = 0 := rfl; have f7 : (7 : Int32).toInt = 7 := rfl; omega)) (fun r9 s10 hs10 => ?_)
    have js10 : JM 4194304 s0 s10 := j_call js6 hs10.1 rfl
    refine oq_b (h_X12_gives _ js10.1) (fun r11 s12 hs12 => ?_)
    have js12 : JM 4194304 s0 s12 := j_call js10 hs12.1 rfl
    exact ⟨js12, trivial, fun _ => trivial, fun _ => trivial⟩
theorem h_X12_beside (a1 : Int32) {s : Sg} (hR : Rg rM s) : OQ (f_X12_beside a1 s) (fun r9 s9 => JM 4194304 s s9 ∧ True ∧ (r9 = 0 → True) ∧ (¬ r9 = 0 → True)) := by
  have hJ : JM 4194304 s s := j_refl hR
  unfold f_X12_beside
  refine oq_b (h_X12_isHouse _ hJ.1) (fun r1 s2 hs2 => ?_)
  have js2 : JM 4194304 s s2 := j_call hJ hs2.1 rfl
  refine oq_if (fun c1 => ?_) (fun c1 => ?_)
  · refine oq_b (h_X12_refuse _ js2.1 (by have f0 : (1 : Int32).toInt = 1 := rfl; omega)) (fun r3 s4 hs4 => ?_)
    have js4 : JM 4194304 s s4 := j_call js2 hs4.1 rfl
    exact ⟨js4, trivial, fun w9 => False.elim (by have f0 := hs4.2.1; have f1 := i_rg r3; have f2 := i_eq w9; have f3 : (0 : Int32).toInt = 0 := rfl; omega), fun _ => trivial⟩
  · refine oq_if (fun c2 => ?_) (fun c2 => ?_)
    · exact h_X12_beside_b30 _ _ _ js2 (by have f0 := i_rg a1; have f1 := (hs2.2.2.2 c1).1; have f2 := (hs2.2.2.2 c1).2; have f3 := i_le c2; have f4 : (0 : Int32).toInt = 0 := rfl; have f5 : (7 : Int32).toInt = 7 := rfl; omega)
    · refine oq_b (h_X12_grainsOn _ js2.1 (by have f0 := i_sub (a1) ((1 : Int32)); have f1 := i_rg a1; have f2 : (1 : Int32).toInt = 1 := rfl; have f3 := (hs2.2.2.2 c1).1; have f4 := (hs2.2.2.2 c1).2; have f5 := i_nle c2; have f6 : (0 : Int32).toInt = 0 := rfl; have f7 : (7 : Int32).toInt = 7 := rfl; omega)) (fun r13 s14 hs14 => ?_)
      have js14 : JM 4194304 s s14 := j_call js2 hs14.1 rfl
      exact h_X12_beside_b30 _ _ _ js14 (by have f0 := i_rg a1; have f1 := (hs2.2.2.2 c1).1; have f2 := (hs2.2.2.2 c1).2; have f3 := i_nle c2; have f4 : (0 : Int32).toInt = 0 := rfl; have f5 : (7 : Int32).toInt = 7 := rfl; omega)
theorem h_X12_ghosts_b4 {s0 : Sg} (n : Nat) : ∀ (v1 : Int32) (v2 : Int32) (s : Sg), JM 4194304 s0 s → 0 ≤ v1.toInt ∧ v1.toInt ≤ 511 → 0 ≤ v2.toInt ∧ v2.toInt ≤ 8 → 8 - v2.toInt < (n : Int) → OQ (f_X12_ghosts_b4 n v1 v2 s) (fun r9 s9 => JM 4194304 s0 s9 ∧ True ∧ (r9 = 0 → True) ∧ (¬ r9 = 0 → True)) := by
  induction n with
  | zero => intro v1 v2 s hJ p_v1 p_v2 hn; exact False.elim (by have g0 := hn; have g1 := p_v1; have g2 := p_v2; have g3 := i_rg v1; have g4 := i_rg v2; omega)
  | succ n ih =>
    intro v1 v2 s hJ p_v1 p_v2 hn
    unfold f_X12_ghosts_b4
    refine oq_if (fun c1 => ?_) (fun c1 => ?_)
    · refine oq_b (h_X12_gives _ hJ.1) (fun r1 s2 hs2 => ?_)
      have js2 : JM 4194304 s0 s2 := j_call hJ hs2.1 rfl
      exact ⟨js2, trivial, fun _ => trivial, fun _ => trivial⟩
    · refine oq_b (h_X12_quarrelHouse _ _ hJ.1 (by have f0 := p_v2; have f1 := i_rg v2; have f2 := i_nle c1; have f3 := j_rd hJ 1 1 0 8 rfl; omega) (by have f0 : (0 : Int32).toInt = 0 := rfl; omega)) (fun r3 s4 hs4 => ?_)
      have js4 : JM 4194304 s0 s4 := j_call hJ hs4.1 rfl
      refine oq_c (inr_of (by have f0 := hs4.2.1; have f1 := i_rg r3; have f2 := hs4.2.1.2; have f3 := p_v2; have f4 := i_rg v2; have f5 : (0 : Int32).toInt = 0 := rfl; have f6 := i_nle c1; have f7 := j_rd hJ 1 1 0 8 rfl; omega)) ?_
      refine oq_b (h_X12_isGone _ js4.1 (by have f0 := rd_end js4 r3.toNatClampNeg (by have d0 := hs4.2.1; have d1 := i_rg r3; have d2 := hs4.2.1.2; have d3 := p_v2; have d4 := i_rg v2; have d5 : (0 : Int32).toInt = 0 := rfl; have d6 := i_nle c1; have d7 := j_rd hJ 1 1 0 8 rfl; have d8 := cl_nat (r3); omega); omega)) (fun r6 s7 hs7 => ?_)
      have js7 : JM 4194304 s0 s7 := j_call js4 hs7.1 rfl
      refine oq_if (fun c2 => ?_) (fun c2 => ?_)
      · exact ih _ _ _ js7 (by have f0 := i_or (v1) ((0 : Int32)) (by have f0 := p_v1; have f1 := i_rg v1; omega) (by have f0 : (0 : Int32).toInt = 0 := rfl; omega); have f1 := p_v1; have f2 := i_rg v1; have f3 : (0 : Int32).toInt = 0 := rfl; omega) (by have f0 := i_add (v2) ((1 : Int32)); have f1 := p_v2; have f2 := i_rg v2; have f3 : (1 : Int32).toInt = 1 := rfl; have f4 := i_nle c1; have f5 := j_rd hJ 1 1 0 8 rfl; omega) (by have g0 := i_or (v1) ((0 : Int32)) (by have f0 := p_v1; have f1 := i_rg v1; omega) (by have f0 : (0 : Int32).toInt = 0 := rfl; omega); have g1 := i_add (v2) ((1 : Int32)); have g2 := p_v1; have g3 := i_rg v1; have g4 : (0 : Int32).toInt = 0 := rfl; have g5 := p_v2; have g6 := i_rg v2; have g7 : (1 : Int32).toInt = 1 := rfl; have g8 := i_nle c1; have g9 := j_rd hJ 1 1 0 8 rfl; have g10 := hn; omega)
      · refine oq_b (h_X12_quarrelHouse _ _ js7.1 (by have f0 := p_v2; have f1 := i_rg v2; have f2 := i_nle c1; have f3 := j_rd hJ 1 1 0 8 rfl; omega) (by have f0 : (1 : Int32).toInt = 1 := rfl; omega)) (fun r8 s9 hs9 => ?_)
        have js9 : JM 4194304 s0 s9 := j_call js7 hs9.1 rfl
        refine oq_c (inr_of (by have f0 := hs9.2.1; have f1 := i_rg r8; have f2 := hs9.2.1.2; have f3 := p_v2; have f4 := i_rg v2; have f5 : (1 : Int32).toInt = 1 := rfl; have f6 := i_nle c1; have f7 := j_rd hJ 1 1 0 8 rfl; omega)) ?_
        refine oq_b (h_X12_isGone _ js9.1 (by have f0 := rd_end js9 r8.toNatClampNeg (by have d0 := hs9.2.1; have d1 := i_rg r8; have d2 := hs9.2.1.2; have d3 := p_v2; have d4 := i_rg v2; have d5 : (1 : Int32).toInt = 1 := rfl; have d6 := i_nle c1; have d7 := j_rd hJ 1 1 0 8 rfl; have d8 := cl_nat (r8); omega); omega)) (fun r11 s12 hs12 => ?_)
        have js12 : JM 4194304 s0 s12 := j_call js9 hs12.1 rfl
        refine oq_if (fun c3 => ?_) (fun c3 => ?_)
        · exact ih _ _ _ js12 (by have f0 := i_or (v1) ((0 : Int32)) (by have f0 := p_v1; have f1 := i_rg v1; omega) (by have f0 : (0 : Int32).toInt = 0 := rfl; omega); have f1 := p_v1; have f2 := i_rg v1; have f3 : (0 : Int32).toInt = 0 := rfl; omega) (by have f0 := i_add (v2) ((1 : Int32)); have f1 := p_v2; have f2 := i_rg v2; have f3 : (1 : Int32).toInt = 1 := rfl; have f4 := i_nle c1; have f5 := j_rd hJ 1 1 0 8 rfl; omega) (by have g0 := i_or (v1) ((0 : Int32)) (by have f0 := p_v1; have f1 := i_rg v1; omega) (by have f0 : (0 : Int32).toInt = 0 := rfl; omega); have g1 := i_add (v2) ((1 : Int32)); have g2 := p_v1; have g3 := i_rg v1; have g4 : (0 : Int32).toInt = 0 := rfl; have g5 := p_v2; have g6 := i_rg v2; have g7 : (1 : Int32).toInt = 1 := rfl; have g8 := i_nle c1; have g9 := j_rd hJ 1 1 0 8 rfl; have g10 := hn; omega)
        · refine oq_n (fun x13 ex13 => ?_)
          exact ih _ _ _ js12 (by have f0 := i_eq ex13; have f1 := i_and (v2) ((31 : Int32)) (by decide); have f2 := i_sh (v2) (by have f0 := p_v2; have f1 := i_rg v2; have f2 := i_nle c1; have f3 := j_rd hJ 1 1 0 8 rfl; omega); have f3 := i_or (v1) ((1 : Int32) <<< (v2 &&& 31)) (by have f0 := p_v1; have f1 := i_rg v1; omega) (by have f0 := i_and (v2) ((31 : Int32)) (by decide); have f1 := i_sh (v2) (by have f0 := p_v2; have f1 := i_rg v2; have f2 := i_nle c1; have f3 := j_rd hJ 1 1 0 8 rfl; omega); have f2 : (1 : Int32).toInt = 1 := rfl; have f3 := p_v2; have f4 := i_rg v2; have f5 : (31 : Int32).toInt = 31 := rfl; have f6 := i_nle c1; have f7 := j_rd hJ 1 1 0 8 rfl; omega); have f4 := i_rg x13; have f5 := p_v1; have f6 := i_rg v1; have f7 : (1 : Int32).toInt = 1 := rfl; have f8 := p_v2; have f9 := i_rg v2; have f10 : (31 : Int32).toInt = 31 := rfl; have f11 := i_nle c1; have f12 := j_rd hJ 1 1 0 8 rfl; omega) (by have f0 := i_add (v2) ((1 : Int32)); have f1 := p_v2; have f2 := i_rg v2; have f3 : (1 : Int32).toInt = 1 := rfl; have f4 := i_nle c1; have f5 := j_rd hJ 1 1 0 8 rfl; omega) (by have g0 := i_add (v2) ((1 : Int32)); have g1 := i_eq ex13; have g2 := i_and (v2) ((31 : Int32)) (by decide); have g3 := i_sh (v2) (by have f0 := p_v2; have f1 := i_rg v2; have f2 := i_nle c1; have f3 := j_rd hJ 1 1 0 8 rfl; omega); have g4 := i_or (v1) ((1 : Int32) <<< (v2 &&& 31)) (by have f0 := p_v1; have f1 := i_rg v1; omega) (by have f0 := i_and (v2) ((31 : Int32)) (by decide); have f1 := i_sh (v2) (by have f0 := p_v2; have f1 := i_rg v2; have f2 := i_nle c1; have f3 := j_rd hJ 1 1 0 8 rfl; omega); have f2 : (1 : Int32).toInt = 1 := rfl; have f3 := p_v2; have f4 := i_rg v2; have f5 : (31 : Int32).toInt = 31 := rfl; have f6 := i_nle c1; have f7 := j_rd hJ 1 1 0 8 rfl; omega); have g5 := i_rg x13; have g6 := p_v2; have g7 := i_rg v2; have g8 : (1 : Int32).toInt = 1 := rfl; have g9 := p_v1; have g10 := i_rg v1; have g11 : (31 : Int32).toInt = 31 := rfl; have g12 := i_nle c1; have g13 := j_rd hJ 1 1 0 8 rfl; have g14 := hn; omega)
theorem h_X12_ghosts  {s : Sg} (hR : Rg rM s) : OQ (f_X12_ghosts  s) (fun r9 s9 => JM 4194304 s s9 ∧ True ∧ (r9 = 0 → True) ∧ (¬ r9 = 0 → True)) := by
  have hJ : JM 4194304 s s := j_refl hR
  unfold f_X12_ghosts
  exact h_X12_ghosts_b4 BIG _ _ _ hJ (by have f0 : (0 : Int32).toInt = 0 := rfl; omega) (by have f0 : (0 : Int32).toInt = 0 := rfl; omega) (by have g0 : (0 : Int32).toInt = 0 := rfl; have g1 : BIG = 4294967296 := rfl; omega)
theorem h_X12_couldBe_b14 {s0 : Sg} (n : Nat) : ∀ (v1 : Int32) (v2 : Int32) (s : Sg), JM 0 s0 s → 1 ≤ v1.toInt ∧ v1.toInt ≤ 255 → 0 ≤ v2.toInt ∧ v2.toInt ≤ 8 → 8 - v2.toInt < (n : Int) → OQ (f_X12_couldBe_b14 n v1 v2 s) (fun r9 s9 => JM 0 s0 s9 ∧ (0 ≤ r9.toInt ∧ r9.toInt ≤ 1) ∧ (r9 = 0 → True) ∧ (¬ r9 = 0 → True)) := by
  induction n with
  | zero => intro v1 v2 s hJ p_v1 p_v2 hn; exact False.elim (by have g0 := hn; have g1 := p_v1; have g2 := p_v2; have g3 := i_rg v1; have g4 := i_rg v2; omega)
  | succ n ih =>
    intro v1 v2 s hJ p_v1 p_v2 hn
    unfold f_X12_couldBe_b14
    refine oq_if (fun c1 => ?_) (fun c1 => ?_)
    · exact ⟨hJ, (by have f0 : (1 : Int32).toInt = 1 := rfl; omega), fun w9 => absurd w9 (by decide), fun _ => trivial⟩
    · refine oq_b (h_X12_isGone _ hJ.1 (by have f0 := p_v2; have f1 := i_rg v2; have f2 := i_nle c1; have f3 := j_rd hJ 1 0 0 8 rfl; omega)) (fun r3 s4 hs4 => ?_)
      have js4 : JM 0 s0 s4 := j_call hJ hs4.1 rfl
      refine oq_if (fun c2 => ?_) (fun c2 => ?_)
      · refine oq_b (h_X12_needAt _ _ js4.1 (by have f0 := p_v2; have f1 := i_rg v2; have f2 := i_nle c1; have f3 := j_rd hJ 1 0 0 8 rfl; omega)) (fun r5 s6 hs6 => ?_)
        have js6 : JM 0 s0 s6 := j_call js4 hs6.1 rfl
        refine oq_b (h_X12_houseRow _ js6.1 (by have f0 := p_v2; have f1 := i_rg v2; have f2 := i_nle c1; have f3 := j_rd hJ 1 0 0 8 rfl; omega)) (fun r7 s8 hs8 => ?_)
        have js8 : JM 0 s0 s8 := j_call js6 hs8.1 rfl
        refine oq_c (inr_of (by have f0 := i_add (r7) ((2 : Int32)); have f1 := hs8.2.1; have f2 := i_rg r7; have f3 := hs8.2.1.2; have f4 : (2 : Int32).toInt = 2 := rfl; have f5 := p_v2; have f6 := i_rg v2; have f7 := i_nle c1; have f8 := j_rd hJ 1 0 0 8 rfl; omega)) ?_
        refine oq_if (fun c3 => ?_) (fun c3 => ?_)
        · refine oq_b (h_X12_grainsOn _ js8.1 (by have f0 := p_v2; have f1 := i_rg v2; have f2 := i_nle c1; have f3 := j_rd hJ 1 0 0 8 rfl; omega)) (fun r10 s11 hs11 => ?_)
          have js11 : JM 0 s0 s11 := j_call js8 hs11.1 rfl
          refine oq_if (fun c4 => ?_) (fun c4 => ?_)
          · exact ih _ _ _ js11 (by have f0 := p_v1; have f1 := i_rg v1; omega) (by have f0 := i_add (v2) ((1 : Int32)); have f1 := p_v2; have f2 := i_rg v2; have f3 : (1 : Int32).toInt = 1 := rfl; have f4 := i_nle c1; have f5 := j_rd hJ 1 0 0 8 rfl; omega) (by have g0 := i_add (v2) ((1 : Int32)); have g1 := p_v1; have g2 := i_rg v1; have g3 := p_v2; have g4 := i_rg v2; have g5 : (1 : Int32).toInt = 1 := rfl; have g6 := i_nle c1; have g7 := j_rd hJ 1 0 0 8 rfl; have g8 := hn; omega)
          · exact ⟨js11, (by have f0 : (0 : Int32).toInt = 0 := rfl; omega), fun _ => trivial, fun w9 => absurd rfl w9⟩
        · refine oq_if (fun c5 => ?_) (fun c5 => ?_)
          · exact ih _ _ _ js8 (by have f0 := p_v1; have f1 := i_rg v1; omega) (by have f0 := i_add (v2) ((1 : Int32)); have f1 := p_v2; have f2 := i_rg v2; have f3 : (1 : Int32).toInt = 1 := rfl; have f4 := i_nle c1; have f5 := j_rd hJ 1 0 0 8 rfl; omega) (by have g0 := i_add (v2) ((1 : Int32)); have g1 := p_v1; have g2 := i_rg v1; have g3 := p_v2; have g4 := i_rg v2; have g5 : (1 : Int32).toInt = 1 := rfl; have g6 := i_nle c1; have g7 := j_rd hJ 1 0 0 8 rfl; have g8 := hn; omega)
          · exact ⟨js8, (by have f0 : (0 : Int32).toInt = 0 := rfl; omega), fun _ => trivial, fun w9 => absurd rfl w9⟩
      · exact ih _ _ _ js4 (by have f0 := p_v1; have f1 := i_rg v1; omega) (by have f0 := i_add (v2) ((1 : Int32)); have f1 := p_v2; have f2 := i_rg v2; have f3 : (1 : Int32).toInt = 1 := rfl; have f4 := i_nle c1; have f5 := j_rd hJ 1 0 0 8 rfl; omega) (by have g0 := i_add (v2) ((1 : Int32)); have g1 := p_v1; have g2 := i_rg v1; have g3 := p_v2; have g4 := i_rg v2; have g5 : (1 : Int32).toInt = 1 := rfl; have g6 := i_nle c1; have g7 := j_rd hJ 1 0 0 8 rfl; have g8 := hn; omega)
theorem h_X12_couldBe (a1 : Int32) {s : Sg} (hR : Rg rM s) (p_a1 : 1 ≤ a1.toInt ∧ a1.toInt ≤ 255) : OQ (f_X12_couldBe a1 s) (fun r9 s9 => JM 0 s s9 ∧ (0 ≤ r9.toInt ∧ r9.toInt ≤ 1) ∧ (r9 = 0 → True) ∧ (¬ r9 = 0 → True)) := by
  have hJ : JM 0 s s := j_refl hR
  unfold f_X12_couldBe
  refine oq_b (h_X12_setOf _ hJ.1 (by have f0 : (3 : Int32).toInt = 3 := rfl; omega)) (fun r1 s2 hs2 => ?_)
  have js2 : JM 0 s s2 := j_call hJ hs2.1 rfl
  refine oq_if (fun c1 => ?_) (fun c1 => ?_)
  · exact h_X12_couldBe_b14 BIG _ _ _ js2 (by have f0 := p_a1; have f1 := i_rg a1; have f2 := i_eq c1; have f3 := i_and (a1) (r1) (by have f0 := hs2.2.1; have f1 := i_rg r1; omega); have f4 := hs2.2.1; have f5 := i_rg r1; have f6 : (0 : Int32).toInt = 0 := rfl; omega) (by have f0 : (0 : Int32).toInt = 0 := rfl; omega) (by have g0 := p_a1; have g1 := i_rg a1; have g2 : (0 : Int32).toInt = 0 := rfl; have g3 := i_eq c1; have g4 := i_and (a1) (r1) (by have f0 := hs2.2.1; have f1 := i_rg r1; omega); have g5 := hs2.2.1; have g6 := i_rg r1; have g7 : BIG = 4294967296 := rfl; omega)
  · exact ⟨js2, (by have f0 : (0 : Int32).toInt = 0 := rfl; omega), fun _ => trivial, fun w9 => absurd rfl w9⟩
theorem h_X12_most_b4 {s0 : Sg} (n : Nat) : ∀ (v1 : Int32) (v2 : Int32) (s : Sg), JM 4194304 s0 s → 0 ≤ v1.toInt ∧ v1.toInt ≤ 255 → 1 ≤ v2.toInt ∧ v2.toInt ≤ 300 → 300 - v2.toInt < (n : Int) → OQ (f_X12_most_b4 n v1 v2 s) (fun r9 s9 => JM 4194304 s0 s9 ∧ True ∧ (r9 = 0 → True) ∧ (¬ r9 = 0 → True)) := by
  induction n with
  | zero => intro v1 v2 s hJ p_v1 p_v2 hn; exact False.elim (by have g0 := hn; have g1 := p_v1; have g2 := p_v2; have g3 := i_rg v1; have g4 := i_rg v2; omega)
  | succ n ih =>
    intro v1 v2 s hJ p_v1 p_v2 hn
    unfold f_X12_most_b4
    refine oq_if (fun c1 => ?_) (fun c1 => ?_)
    · refine oq_b (h_X12_gives _ hJ.1) (fun r1 s2 hs2 => ?_)
      have js2 : JM 4194304 s0 s2 := j_call hJ hs2.1 rfl
      exact ⟨js2, trivial, fun _ => trivial, fun _ => trivial⟩
    · refine oq_b (h_X12_bits _ hJ.1 (by have f0 := p_v2; have f1 := i_rg v2; have f2 := i_nle c1; have f3 := i_and (s.1 1 1) ((31 : Int32)) (by decide); have f4 := i_sh (s.1 1 1) (by have f0 := j_rd hJ 1 1 0 8 rfl; omega); have f5 : (1 : Int32).toInt = 1 := rfl; have f6 := j_rd hJ 1 1 0 8 rfl; have f7 : (31 : Int32).toInt = 31 := rfl; omega)) (fun r3 s4 hs4 => ?_)
      have js4 : JM 4194304 s0 s4 := j_call hJ hs4.1 rfl
      refine oq_b (h_X12_bits _ js4.1 (by have f0 := p_v1; have f1 := i_rg v1; omega)) (fun r5 s6 hs6 => ?_)
      have js6 : JM 4194304 s0 s6 := j_call js4 hs6.1 rfl
      refine oq_if (fun c2 => ?_) (fun c2 => ?_)
      · exact ih _ _ _ js6 (by have f0 := p_v1; have f1 := i_rg v1; omega) (by have f0 := i_add (v2) ((1 : Int32)); have f1 := p_v2; have f2 := i_rg v2; have f3 : (1 : Int32).toInt = 1 := rfl; have f4 := i_nle c1; have f5 := i_and (s.1 1 1) ((31 : Int32)) (by decide); have f6 := i_sh (s.1 1 1) (by have f0 := j_rd hJ 1 1 0 8 rfl; omega); have f7 := j_rd hJ 1 1 0 8 rfl; have f8 : (31 : Int32).toInt = 31 := rfl; omega) (by have g0 := i_add (v2) ((1 : Int32)); have g1 := p_v1; have g2 := i_rg v1; have g3 := p_v2; have g4 := i_rg v2; have g5 : (1 : Int32).toInt = 1 := rfl; have g6 := i_nle c1; have g7 := i_and (s.1 1 1) ((31 : Int32)) (by decide); have g8 := i_sh (s.1 1 1) (by have f0 := j_rd hJ 1 1 0 8 rfl; omega); have g9 := j_rd hJ 1 1 0 8 rfl; have g10 : (31 : Int32).toInt = 31 := rfl; have g11 := hn; omega)
      · refine oq_b (h_X12_couldBe _ js6.1 (by have f0 := p_v2; have f1 := i_rg v2; have f2 := i_nle c1; have f3 := i_and (s.1 1 1) ((31 : Int32)) (by decide); have f4 := i_sh (s.1 1 1) (by have f0 := j_rd hJ 1 1 0 8 rfl; omega); have f5 : (1 : Int32).toInt = 1 := rfl; have f6 := j_rd hJ 1 1 0 8 rfl; have f7 : (31 : Int32).toInt = 31 := rfl; omega)) (fun r7 s8 hs8 => ?_)
        have js8 : JM 4194304 s0 s8 := j_call js6 hs8.1 rfl
        refine oq_if (fun c3 => ?_) (fun c3 => ?_)
        · exact ih _ _ _ js8 (by have f0 := p_v1; have f1 := i_rg v1; omega) (by have f0 := i_add (v2) ((1 : Int32)); have f1 := p_v2; have f2 := i_rg v2; have f3 : (1 : Int32).toInt = 1 := rfl; have f4 := i_nle c1; have f5 := i_and (s.1 1 1) ((31 : Int32)) (by decide); have f6 := i_sh (s.1 1 1) (by have f0 := j_rd hJ 1 1 0 8 rfl; omega); have f7 := j_rd hJ 1 1 0 8 rfl; have f8 : (31 : Int32).toInt = 31 := rfl; omega) (by have g0 := i_add (v2) ((1 : Int32)); have g1 := p_v1; have g2 := i_rg v1; have g3 := p_v2; have g4 := i_rg v2; have g5 : (1 : Int32).toInt = 1 := rfl; have g6 := i_nle c1; have g7 := i_and (s.1 1 1) ((31 : Int32)) (by decide); have g8 := i_sh (s.1 1 1) (by have f0 := j_rd hJ 1 1 0 8 rfl; omega); have g9 := j_rd hJ 1 1 0 8 rfl; have g10 : (31 : Int32).toInt = 31 := rfl; have g11 := hn; omega)
        · exact ih _ _ _ js8 (by have f0 := p_v2; have f1 := i_rg v2; have f2 := i_nle c1; have f3 := i_and (s.1 1 1) ((31 : Int32)) (by decide); have f4 := i_sh (s.1 1 1) (by have f0 := j_rd hJ 1 1 0 8 rfl; omega); have f5 : (1 : Int32).toInt = 1 := rfl; have f6 := j_rd hJ 1 1 0 8 rfl; have f7 : (31 : Int32).toInt = 31 := rfl; omega) (by have f0 := i_add (v2) ((1 : Int32)); have f1 := p_v2; have f2 := i_rg v2; have f3 : (1 : Int32).toInt = 1 := rfl; have f4 := i_nle c1; have f5 := i_and (s.1 1 1) ((31 : Int32)) (by decide); have f6 := i_sh (s.1 1 1) (by have f0 := j_rd hJ 1 1 0 8 rfl; omega); have f7 := j_rd hJ 1 1 0 8 rfl; have f8 : (31 : Int32).toInt = 31 := rfl; omega) (by have g0 := i_add (v2) ((1 : Int32)); have g1 := p_v2; have g2 := i_rg v2; have g3 : (1 : Int32).toInt = 1 := rfl; have g4 := i_nle c1; have g5 := i_and (s.1 1 1) ((31 : Int32)) (by decide); have g6 := i_sh (s.1 1 1) (by have f0 := j_rd hJ 1 1 0 8 rfl; omega); have g7 := j_rd hJ 1 1 0 8 rfl; have g8 : (31 : Int32).toInt = 31 := rfl; have g9 := hn; omega)
theorem h_X12_most  {s : Sg} (hR : Rg rM s) : OQ (f_X12_most  s) (fun r9 s9 => JM 4194304 s s9 ∧ True ∧ (r9 = 0 → True) ∧ (¬ r9 = 0 → True)) := by
  have hJ : JM 4194304 s s := j_refl hR
  unfold f_X12_most
  exact h_X12_most_b4 BIG _ _ _ hJ (by have f0 : (0 : Int32).toInt = 0 := rfl; omega) (by have f0 : (1 : Int32).toInt = 1 := rfl; omega) (by have g0 : (0 : Int32).toInt = 0 := rfl; have g1 : (1 : Int32).toInt = 1 := rfl; have g2 : BIG = 4294967296 := rfl; omega)
