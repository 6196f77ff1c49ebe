/-! the tape's bytes: feed -/
theorem lsb255 : ∀ i, i < 32 → (255#32).getLsbD i = decide (i < 8) := by decide
theorem sh_bv (x : BitVec 32) (k : Nat) (hk : k ≤ 24) : (x >>> k) &&& 255#32 = (x.sshiftRight k) &&& 255#32 := by
  apply BitVec.eq_of_getLsbD_eq
  intro i hi
  rw [BitVec.getLsbD_and, BitVec.getLsbD_and, lsb255 i hi]
  by_cases h8 : i < 8
  · rw [BitVec.getLsbD_ushiftRight, BitVec.getLsbD_sshiftRight, if_pos (show k + i < 32 by omega)]
    simp [h8, show ¬ 32 ≤ i by omega]
  · simp [h8]
theorem by_sh (v1 v2 : Int32) (h : v2 = 24 ∨ v2 = 16 ∨ v2 = 8 ∨ v2 = 0) : ((v1.toUInt32 >>> (v2.toUInt32 &&& Int32.toUInt32 31)).toInt32) &&& 255 = (v1 >>> (v2 &&& 31)) &&& 255 := by
  apply Int32.toBitVec_inj.mp
  rcases h with h | h | h | h <;> subst h
  · exact sh_bv v1.toBitVec 24 (by decide)
  · exact sh_bv v1.toBitVec 16 (by decide)
  · exact sh_bv v1.toBitVec 8 (by decide)
  · exact sh_bv v1.toBitVec 0 (by decide)
theorem nar8 (x : Int32) : x.toInt8.toInt32 &&& 255 = x &&& 255 := by_nar x
theorem put_r (v1 : Int32) (m : Nat) : ∀ (m' r : Nat) (v2 : Int32) (s t : Sg), v2.toInt = 8 * (r : Int) - 8 → r ≤ 4 → s.1 0 13 = t.1 0 10 → 0 ≤ (t.1 0 10).toInt → (t.1 0 10).toInt + r ≤ 900 → TapB s t → RQ (f_X11_putOnTape_b3 m v1 v2 s) (f_X12_four_b3 m' v1 v2 t) (fun _ s9 _ t9 => s9.1 0 13 = t9.1 0 10 ∧ TapB s9 t9 ∧ (t9.1 0 10).toInt = (t.1 0 10).toInt + r) := by
  induction m with
  | zero => intro m' r v2 s t _ _ _ _ _ _ a s' b t' e; cases e
  | succ m ih =>
    intro m' r v2 s t h2 hr he h0 h9 tb
    cases m' with
    | zero => exact rq_0
    | succ m' =>
      have e0 : (0 : Int32).toInt = 0 := rfl
      have e1 : (1 : Int32).toInt = 1 := rfl
      have e8 : (-8 : Int32).toInt = -8 := rfl
      have e900 : (900 : Int32).toInt = 900 := rfl
      unfold f_X11_putOnTape_b3 f_X12_four_b3
      by_cases z : r = 0
      · have lt : v2 < 0 := Int32.lt_iff_toInt_lt.mpr (by omega)
        rw [if_pos lt, if_pos lt]
        exact rq_s ⟨he, tb, by omega⟩
      · have nlt : ¬ v2 < 0 := fun w => by
          have := i_lt w
          omega
        have n9 : ¬ (900 : Int32) ≤ s.1 0 13 := fun w => by
          have := i_le w
          rw [he] at this
          omega
        rw [if_neg nlt, if_neg nlt, if_neg n9]
        have a2 : (v2 + (-8)).toInt = v2.toInt + (-8 : Int32).toInt := i_addx v2 (-8) (by omega)
        have ac : ((t.1 0 10) + 1).toInt = (t.1 0 10).toInt + 1 := i_addx _ 1 (by omega)
        have cl := cl_nat (t.1 0 10)
        refine rq_cC (fun _ => rq_cM (fun _ => rq_nC (fun s2 q2 => rq_nM (fun t2 p2 => ?_))))
        have c13 : s2.1 0 13 = t.1 0 10 := by rw [q2, q_nc rfl]; exact he
        have c10 : t2.1 0 10 = t.1 0 10 := by rw [p2, q_nc rfl]
        rw [c13, c10]
        have v4 : v2 = 24 ∨ v2 = 16 ∨ v2 = 8 ∨ v2 = 0 := by
          have w : r = 4 ∨ r = 3 ∨ r = 2 ∨ r = 1 := by omega
          rcases w with w | w | w | w <;> subst w
          · exact Or.inl (Int32.toInt_inj.mp (by rw [h2]; rfl))
          · exact Or.inr (Or.inl (Int32.toInt_inj.mp (by rw [h2]; rfl)))
          · exact Or.inr (Or.inr (Or.inl (Int32.toInt_inj.mp (by rw [h2]; rfl))))
          · exact Or.inr (Or.inr (Or.inr (Int32.toInt_inj.mp (by rw [h2]; rfl))))
        refine rq_w (ih m' (r - 1) (v2 + (-8)) _ _ (by omega) (by omega) ?_ ?_ ?_ (fun k hk => ?_)) (fun _ s9 _ t9 g => ⟨g.1, g.2.1, ?_⟩)
        · rw [q_eq, q_eq]
        · rw [q_eq]; omega
        · rw [q_eq]; omega
        · rw [q_eq] at hk
          rw [q_nc rfl, q_nc rfl, q2, p2, pI_1, pI_1, he]
          by_cases y : k = (t.1 0 10).toNatClampNeg
          · rw [if_pos ⟨rfl, y⟩, if_pos ⟨rfl, y⟩, by_nar, nar8]
            exact by_sh v1 v2 v4
          · rw [if_neg (fun w => y w.2), if_neg (fun w => y w.2)]
            exact tb k (by omega)
        · have g := g.2.2
          rw [q_eq] at g
          omega
theorem feed_r {sC sM : Sg} (a1 a2 a3 a4 a5 : Int32) (e10 : sC.1 0 13 = sM.1 0 10) (hc : 0 ≤ (sM.1 0 10).toInt ∧ (sM.1 0 10).toInt ≤ 900) (tb : TapB sC sM) : RQ (f_X11_feed a1 a2 a3 a4 a5 sC) (f_X12_feed a1 a2 a3 a4 a5 sM) (fun r s r' t => r = r' ∧ TapB s t) := by
  unfold f_X11_feed f_X12_feed
  rw [e10]
  have e20 : (20 : Int32).toInt = 20 := rfl
  have e900 : (900 : Int32).toInt = 900 := rfl
  have a0 : ((sM.1 0 10) + 20).toInt = (sM.1 0 10).toInt + 20 := i_addx _ 20 (by omega)
  have pt : ∀ (a : Int32) (s t : Sg), s.1 0 13 = t.1 0 10 → 0 ≤ (t.1 0 10).toInt → (t.1 0 10).toInt + 4 ≤ 900 → TapB s t → RQ (f_X11_putOnTape a s) (f_X12_four a t) (fun _ s9 _ t9 => s9.1 0 13 = t9.1 0 10 ∧ TapB s9 t9 ∧ (t9.1 0 10).toInt = (t.1 0 10).toInt + 4) := fun a s t g1 g2 g3 g4 => by
    unfold f_X11_putOnTape f_X12_four
    exact put_r a BIG BIG 4 24 s t rfl (by decide) g1 g2 g3 g4
  refine rq_iC (fun c => rq_iM (fun _ => ?_) (fun z => absurd c z)) (fun c => rq_iM (fun z => absurd z c) (fun _ => rq_s ⟨rfl, tb⟩))
  have c := i_le c
  refine rq_b2 (pt a1 sC sM e10 hc.1 (by omega) tb) (fun _ s2 _ t2 g => ?_)
  refine rq_b2 (pt a2 s2 t2 g.1 (by omega) (by omega) g.2.1) (fun _ s4 _ t4 h => ?_)
  refine rq_b2 (pt a3 s4 t4 h.1 (by omega) (by omega) h.2.1) (fun _ s6 _ t6 i => ?_)
  refine rq_b2 (pt a4 s6 t6 i.1 (by omega) (by omega) i.2.1) (fun _ s8 _ t8 j => ?_)
  refine rq_b2 (pt a5 s8 t8 j.1 (by omega) (by omega) j.2.1) (fun _ s10 _ t10 k => rq_s ⟨k.1, k.2.1⟩)
