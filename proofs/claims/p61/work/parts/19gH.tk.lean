/-! texts: both ends of a quarrel -/
theorem k0_c {K : Int32 → Sg → Option (Int32 × Sg)} (hK : K0 K) (KM : Sg → Option (Int32 × Sg)) : K0 (fun r t => bd (if r = 0 then some (0, t) else KM t) K) := fun t => by
  show bd (if (0 : Int32) = 0 then some (0, t) else KM t) K = _
  rw [if_pos rfl]
  exact hK t
theorem rq_0 {α β : Type} {oC : Option (α × Sg)} {R : α → Sg → β → Sg → Prop} : RQ oC (none : Option (β × Sg)) R := fun _ _ _ _ _ e => by cases e
/-- a quarrel's ends are there -/
def QrE (x : Int32) (s t : Sg) : Prop := (s.1 58 x.toNatClampNeg = t.1 1 (1960 + 5 * x.toNatClampNeg) ∧ s.1 59 x.toNatClampNeg = t.1 1 (1961 + 5 * x.toNatClampNeg)) ∧ (0 ≤ (s.1 58 x.toNatClampNeg).toInt ∧ (s.1 58 x.toNatClampNeg).toInt < (t.1 1 1920).toInt) ∧ (0 ≤ (s.1 59 x.toNatClampNeg).toInt ∧ (s.1 59 x.toNatClampNeg).toInt < (t.1 1 1920).toInt) ∧ ¬ s.1 58 x.toNatClampNeg = s.1 59 x.toNatClampNeg
theorem qends_r {n : Nat} {x v1 : Int32} {sC sM : Sg} (h : WkT n 1 x sC sM) {p0 : Int} (hp : p0 ≤ (sC.1 7 4).toInt) (hv : v1.toInt = 1960 + 5 * x.toInt) {G : Sg → Sg → Prop} {K : Int32 → Sg → Option (Int32 × Sg)} (hK : K0 K) (KC KM : Sg → Option (Int32 × Sg)) (hk : ∀ s t, WkT n 1 x s t → p0 ≤ (s.1 7 4).toInt → QrE x s t → RQ (KC s) (bd (KM t) K) (Og G)) (m : Nat) : RQ (bd (f_X6_takeEnd_58 x (-1) 0 sC) (fun r5 s6 => if r5 = 0 then some (0, s6) else bd (f_X7_pass 106 s6) (fun r7 s8 => if r7 = 0 then some (0, s8) else ck (inr x 8) (bd (f_X6_takeEnd_59 x (s8.1 58 x.toNatClampNeg) 0 s8) (fun r10 s11 => if r10 = 0 then some (0, s11) else KC s11))))) (bd (bd (f_X12_twoHouses_b3 m v1 9 0 0 sM) (fun r6 s7 => if r6 = 0 then some (0, s7) else KM s7)) K) (Og G) := by
  have cl := cl_nat x
  have cl1 := cl_nat v1
  have hx := h.2.2.2.2.2
  have e1 : (1 : Int32).toInt = 1 := rfl
  have v10 : (v1 + 0).toNatClampNeg = 1920 + (40 + 5 * x.toNatClampNeg) := by
    have e0 : (0 : Int32).toInt = 0 := rfl
    have a := i_addx v1 0 (by omega)
    have c := cl_nat (v1 + 0)
    omega
  have v11 : (v1 + (0 + 1)).toNatClampNeg = 1920 + (41 + 5 * x.toNatClampNeg) := by
    have e0 : ((0 : Int32) + 1).toInt = 1 := rfl
    have a := i_addx v1 (0 + 1) (by omega)
    have c := cl_nat (v1 + (0 + 1))
    omega
  have v1c : v1.toNatClampNeg = 1920 + (40 + 5 * x.toNatClampNeg) := by omega
  have z0 : ∀ r : Int32, (((0 : Int32) >>> (r &&& 31)) &&& 1) = 0 := fun r => by
    apply Int32.toInt_inj.mp
    have : ((0 : Int32) >>> (r &&& 31)) = 0 := by simp
    rw [this]
    rfl
  have hK' := k0_c hK KM
  cases m with
  | zero => exact rq_0
  | succ m =>
    unfold f_X12_twoHouses_b3
    refine rm_b (rm_i (fun w => absurd w (by decide)) (fun _ => ?_))
    refine end58_r (q := 1) (by decide) rfl h hp (-1) 0 v1 9 0 0 (40 + 5 * x.toNatClampNeg) v10 (by unfold InW; omega) (Or.inl rfl) (f_X12_twoHouses_b3 m) (fun r r1 r2 => ?_) hK' _ (fun r s t g1 g2 g3 g4 g5 g6 => ?_)
    · constructor
      · rintro (w | w)
        · rw [w] at r1
          exact absurd r1 (by decide)
        · exact absurd (z0 r) w
      · rintro (w | w)
        · exact absurd rfl w.1
        · exact absurd w.1 (by decide)
    · refine rm_i (fun _ => ?_) (fun w => absurd rfl w)
      refine rm_b (rq_b2 (pass_w g1.1.1 g1.1.2.1 106 9 6 (by decide) rfl rfl) (fun u s8 u' t8 w => ?_))
      rcases w with ⟨y, y', w⟩ | ⟨y, y', w⟩ <;> subst y <;> subst y'
      · rw [if_neg (show ¬ (1 : Int32) = 0 by decide)]
        refine rm_i (fun y => absurd y i10) (fun _ => rq_cC (fun _ => ?_))
        have kp := kp_of w
        have h8 := wk_st w g1
        have q1 := tk_pos g1.1.1
        have q2 := w.2.2.2
        obtain ⟨⟨⟨y1, y2, y3, y4, y5, y6, y7, y8, y9, y10, y11, y12⟩, y13, y14, y15, y16, y17, y18, y19, y20⟩, y21, y22, y23, y24⟩ := kp
        have k58 : s8.1 58 x.toNatClampNeg = r := by rw [y6]; exact g3.1
        have m40 : t8.1 1 (1920 + (40 + 5 * x.toNatClampNeg)) = r := by rw [y21]; exact g3.2.1
        have m0 : t8.1 1 1920 = sM.1 1 1920 := by rw [y21]; exact g5 1920 (by omega)
        cases m with
        | zero => exact rq_0
        | succ m =>
          unfold f_X12_twoHouses_b3
          refine rm_i (fun w => absurd w (by decide)) (fun _ => ?_)
          rw [k58]
          refine end59_r (p0 := p0) (q := 1) (by decide) rfl h8 (by omega) r 0 v1 9 0 (0 + 1) (41 + 5 * x.toNatClampNeg) v11 (by unfold InW; omega) (Or.inr rfl) (f_X12_twoHouses_b3 m) (fun a a1 a2 => ?_) hK' _ (fun a s9 t9 j1 j2 j3 j4 j5 j6 => ?_)
          · rw [v1c, m40]
            constructor
            · rintro (w | w)
              · exact Or.inr ⟨rfl, w⟩
              · exact absurd (z0 a) w
            · rintro (w | w)
              · exact absurd rfl w.1
              · exact Or.inl w.2
          · refine rm_i (fun w => absurd w (by decide)) (fun _ => ?_)
            cases m with
            | zero => exact rq_0
            | succ m =>
              unfold f_X12_twoHouses_b3
              refine rm_i (fun _ => rm_s (rm_i (fun y => absurd y i10) (fun _ => hk s9 t9 j1 j2 ?_))) (fun w => absurd (by decide) w)
              have k9 : s9.1 58 x.toNatClampNeg = r := by rw [j4 58 (by decide) (by decide) (by decide)]; exact k58
              have n40 : t9.1 1 (1960 + 5 * x.toNatClampNeg) = r := by
                rw [j5 _ (by omega)]
                have e : 1960 + 5 * x.toNatClampNeg = 1920 + (40 + 5 * x.toNatClampNeg) := by omega
                rw [e]; exact m40
              have n41 : t9.1 1 (1961 + 5 * x.toNatClampNeg) = a := by
                have e : 1961 + 5 * x.toNatClampNeg = 1920 + (41 + 5 * x.toNatClampNeg) := by omega
                rw [e]; exact j3.2.1
              have n0 : t9.1 1 1920 = sM.1 1 1920 := (j5 1920 (by omega)).trans m0
              unfold QrE
              rw [k9, j3.1, n40, n41, n0]
              refine ⟨⟨rfl, rfl⟩, ⟨g3.2.2.1, g3.2.2.2.1⟩, ⟨j3.2.2.1, by rw [← m0]; exact j3.2.2.2.1⟩, fun e => j3.2.2.2.2 ⟨rfl, ?_⟩⟩
              rw [v1c, m40]
              exact e.symm
      · rw [if_pos rfl]
        refine rm_i (fun _ => rm_s ?_) (fun w => absurd rfl w)
        refine rm_i (fun _ => rm_s ?_) (fun w => absurd rfl w)
        rw [hK t8]
        exact rq_s (Or.inr ⟨rfl, rfl, w⟩)
