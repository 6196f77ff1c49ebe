/-! life: any row's act, the test of an IF, where it goes on -/
theorem rq_uC {β γ : Type} {o : Option (γ × Sg)} {oM : Option (β × Sg)} {S : Sg → β → Sg → Prop} (h : RQ o oM (fun _ s b t => S s b t)) : RQ (bd o (fun _ s => some ((), s))) oM (fun _ s b t => S s b t) := rq_bC (P := fun r s' => o = some (r, s')) (fun r s' y => y) (fun r s' y => fun a s2 b t e1 e2 => by
  cases e1
  exact h r s' b t y e2)
theorem act_r {s t : Sg} (H : NowG 0 s t) (T : TlR 0 s t) (D : DyE s t) {K : Int} (hK : 9999 ≤ K ∧ K ≤ 900000000) (G : GnR (t.1 1) K) {k : Nat} (hk : k < 60) (a b : Int32) (ha : a.toInt = (k : Int)) (hb : b.toInt = 110 + 6 * (k : Int)) (R : RwR 24 110 s (t.1 1) k) (V : VdR 110 (t.1 1) k) (n26 : ¬ t.1 1 (110 + 6 * k) = 26) (n27 : ¬ t.1 1 (110 + 6 * k) = 27) : RQ (f_X3_act_25_26_27 a s) (f_X12_does b t) (fun _ s' r' t' => ActP (K + 400) t s' r' t') := by
  have up : ∀ {s' : Sg} {r' : Int32} {t' : Sg}, ActP K t s' r' t' → ActP (K + 400) t s' r' t' := fun h => ⟨⟨⟨h.1.1.1, h.1.1.2.1, gn_up h.1.1.2.2 (by omega)⟩, h.1.2⟩, h.2⟩
  have hp : ∀ (j : Nat) (bj : Int32), bj.toInt = (j : Int) → j < 6 → (b + bj).toNatClampNeg = 110 + 6 * k + j := fun j bj z1 z2 => by
    have y : (b + bj).toInt = b.toInt + bj.toInt := i_addx _ _ (by omega)
    exact cl_h (by omega)
  have h0 : b.toNatClampNeg = 110 + 6 * k := cl_h (by omega)
  have b0 := H.1.1.2.1.1
  have stay : RQ (some ((), s)) (some ((1 : Int32), t)) (fun _ s' r' t' => ActP (K + 400) t s' r' t') := rq_s ⟨⟨⟨H, D, gn_up G (by omega)⟩, kd_l (kl_r (w := true))⟩, Or.inl ⟨rfl, T⟩⟩
  unfold f_X3_act_25_26_27 f_X12_does
  refine rq_cC (fun _ => rq_cM (fun _ => rq_nM (fun x2 f2 => rq_cM (fun _ => rq_nM (fun x4 f4 => rq_cM (fun _ => ?_))))))
  rw [hp 1 1 rfl (by decide)] at f2
  rw [hp 2 2 rfl (by decide)] at f4
  rw [h0, cl_h ha]
  obtain ⟨V1, V2, V3, V4, V5, V6, V7⟩ := V
  rcases R with ⟨w, m, th, nu⟩ | ⟨w, m, th, nu, ho⟩ | ⟨w, m, th⟩ | ⟨w, m, nu⟩ | ⟨w, m, nu⟩ | ⟨w, m⟩ | ⟨w, m, nu⟩ | ⟨w, m⟩ | ⟨w, m⟩ | ⟨w, th, R⟩
  · rw [show s.1 45 k = 120 from w, show t.1 1 (110 + 6 * k) = 19 from m]
    rw [if_neg (show ¬ (120 : Int32) = 116 by decide), if_neg (show ¬ (120 : Int32) = 117 by decide), if_neg (show ¬ (120 : Int32) = 118 by decide), if_neg (show ¬ (120 : Int32) = 119 by decide), if_pos rfl]
    rw [if_neg (show ¬ (19 : Int32) = 4 by decide), if_neg (show ¬ (19 : Int32) = 5 by decide), if_neg (show ¬ (19 : Int32) = 6 by decide), if_neg (show ¬ (19 : Int32) = 7 by decide), if_neg (show ¬ (19 : Int32) = 8 by decide), if_neg (show ¬ (19 : Int32) = 9 by decide), if_neg (show ¬ (19 : Int32) = 10 by decide), if_neg (show ¬ (19 : Int32) = 11 by decide), if_neg (show ¬ (19 : Int32) = 12 by decide), if_neg (show ¬ (19 : Int32) = 13 by decide), if_neg (show ¬ (19 : Int32) = 14 by decide), if_neg (show ¬ (19 : Int32) = 15 by decide), if_neg (show ¬ (19 : Int32) = 16 by decide), if_neg (show ¬ (19 : Int32) = 17 by decide), if_neg (show ¬ (19 : Int32) = 18 by decide), if_pos rfl]
    have hv := V1 (Or.inl m)
    have hg := V5 (Or.inl m)
    rw [show t.1 1 (110 + 6 * k + 1) = x2 from f2.symm] at hv
    rw [show t.1 1 (110 + 6 * k + 2) = x4 from f4.symm] at hg
    rw [show s.1 46 k = x2 from th.trans f2.symm, show s.1 47 k = x4 from nu.trans f4.symm]
    refine rq_uC (rq_w (strew_a H T D hK G (h := x2.toInt.toNat) (by omega) (by omega) hv.2 hg) (fun _ _ _ _ g => up g))
  · rw [show s.1 45 k = 119 from w, show t.1 1 (110 + 6 * k) = 20 from m]
    rw [if_neg (show ¬ (119 : Int32) = 116 by decide), if_neg (show ¬ (119 : Int32) = 117 by decide), if_neg (show ¬ (119 : Int32) = 118 by decide), if_pos rfl]
    rw [if_neg (show ¬ (20 : Int32) = 4 by decide), if_neg (show ¬ (20 : Int32) = 5 by decide), if_neg (show ¬ (20 : Int32) = 6 by decide), if_neg (show ¬ (20 : Int32) = 7 by decide), if_neg (show ¬ (20 : Int32) = 8 by decide), if_neg (show ¬ (20 : Int32) = 9 by decide), if_neg (show ¬ (20 : Int32) = 10 by decide), if_neg (show ¬ (20 : Int32) = 11 by decide), if_neg (show ¬ (20 : Int32) = 12 by decide), if_neg (show ¬ (20 : Int32) = 13 by decide), if_neg (show ¬ (20 : Int32) = 14 by decide), if_neg (show ¬ (20 : Int32) = 15 by decide), if_neg (show ¬ (20 : Int32) = 16 by decide), if_neg (show ¬ (20 : Int32) = 17 by decide), if_neg (show ¬ (20 : Int32) = 18 by decide), if_neg (show ¬ (20 : Int32) = 19 by decide), if_pos rfl]
    have hv := V1 (Or.inr (Or.inl m))
    have hg := V5 (Or.inr m)
    have hj := V2 m
    rw [show t.1 1 (110 + 6 * k + 1) = x2 from f2.symm] at hv
    rw [show t.1 1 (110 + 6 * k + 2) = x4 from f4.symm] at hg
    rw [show t.1 1 (110 + 6 * k + 3) = s.1 46 k from th.symm] at hj
    rw [show s.1 48 k = x2 from ho.trans f2.symm, show s.1 47 k = x4 from nu.trans f4.symm]
    refine rq_uC (rq_w (buy_a H T D hK G (a := s.1 46 k) (b := b) (j := (s.1 46 k).toInt.toNat) (h := x2.toInt.toNat) (by omega) (by omega) (by omega) (by omega) hv.2 hg (by rw [hp 3 3 rfl (by decide)]; exact th.symm)) (fun _ _ _ _ g => up g))
  · rw [show s.1 45 k = 121 from w, show t.1 1 (110 + 6 * k) = 21 from m]
    rw [if_neg (show ¬ (121 : Int32) = 116 by decide), if_neg (show ¬ (121 : Int32) = 117 by decide), if_neg (show ¬ (121 : Int32) = 118 by decide), if_neg (show ¬ (121 : Int32) = 119 by decide), if_neg (show ¬ (121 : Int32) = 120 by decide), if_pos rfl]
    rw [if_neg (show ¬ (21 : Int32) = 4 by decide), if_neg (show ¬ (21 : Int32) = 5 by decide), if_neg (show ¬ (21 : Int32) = 6 by decide), if_neg (show ¬ (21 : Int32) = 7 by decide), if_neg (show ¬ (21 : Int32) = 8 by decide), if_neg (show ¬ (21 : Int32) = 9 by decide), if_neg (show ¬ (21 : Int32) = 10 by decide), if_neg (show ¬ (21 : Int32) = 11 by decide), if_neg (show ¬ (21 : Int32) = 12 by decide), if_neg (show ¬ (21 : Int32) = 13 by decide), if_neg (show ¬ (21 : Int32) = 14 by decide), if_neg (show ¬ (21 : Int32) = 15 by decide), if_neg (show ¬ (21 : Int32) = 16 by decide), if_neg (show ¬ (21 : Int32) = 17 by decide), if_neg (show ¬ (21 : Int32) = 18 by decide), if_neg (show ¬ (21 : Int32) = 19 by decide), if_neg (show ¬ (21 : Int32) = 20 by decide), if_pos rfl]
    have hv := V1 (Or.inr (Or.inr (Or.inl m)))
    rw [show t.1 1 (110 + 6 * k + 1) = x2 from f2.symm] at hv
    rw [show s.1 46 k = x2 from th.trans f2.symm]
    refine rq_uC (rq_w (sweep_a H T D hK G (h := x2.toInt.toNat) (by omega) (by omega)) (fun _ _ _ _ g => up g))
  · rw [show s.1 45 k = 116 from w, show t.1 1 (110 + 6 * k) = 4 from m]
    rw [if_pos rfl]
    rw [if_pos rfl]
    rw [show s.1 47 k = x2 from nu.trans f2.symm]
    refine rq_uC (rq_w (rain_a H T D hK G x2) (fun _ _ _ _ g => up g))
  · rw [show s.1 45 k = 122 from w, show t.1 1 (110 + 6 * k) = 22 from m]
    rw [if_neg (show ¬ (122 : Int32) = 116 by decide), if_neg (show ¬ (122 : Int32) = 117 by decide), if_neg (show ¬ (122 : Int32) = 118 by decide), if_neg (show ¬ (122 : Int32) = 119 by decide), if_neg (show ¬ (122 : Int32) = 120 by decide), if_neg (show ¬ (122 : Int32) = 121 by decide), if_pos rfl]
    rw [if_neg (show ¬ (22 : Int32) = 4 by decide), if_neg (show ¬ (22 : Int32) = 5 by decide), if_neg (show ¬ (22 : Int32) = 6 by decide), if_neg (show ¬ (22 : Int32) = 7 by decide), if_neg (show ¬ (22 : Int32) = 8 by decide), if_neg (show ¬ (22 : Int32) = 9 by decide), if_neg (show ¬ (22 : Int32) = 10 by decide), if_neg (show ¬ (22 : Int32) = 11 by decide), if_neg (show ¬ (22 : Int32) = 12 by decide), if_neg (show ¬ (22 : Int32) = 13 by decide), if_neg (show ¬ (22 : Int32) = 14 by decide), if_neg (show ¬ (22 : Int32) = 15 by decide), if_neg (show ¬ (22 : Int32) = 16 by decide), if_neg (show ¬ (22 : Int32) = 17 by decide), if_neg (show ¬ (22 : Int32) = 18 by decide), if_neg (show ¬ (22 : Int32) = 19 by decide), if_neg (show ¬ (22 : Int32) = 20 by decide), if_neg (show ¬ (22 : Int32) = 21 by decide), if_pos rfl]
    have hg := V7 m
    rw [show t.1 1 (110 + 6 * k + 1) = x2 from f2.symm] at hg
    rw [show s.1 47 k = x2 from nu.trans f2.symm]
    refine rq_uC (rq_w (snow_a H T D G hg) (fun _ _ _ _ g => up g))
  · rw [show s.1 45 k = 123 from w, show t.1 1 (110 + 6 * k) = 23 from m]
    rw [if_neg (show ¬ (123 : Int32) = 116 by decide), if_neg (show ¬ (123 : Int32) = 117 by decide), if_neg (show ¬ (123 : Int32) = 118 by decide), if_neg (show ¬ (123 : Int32) = 119 by decide), if_neg (show ¬ (123 : Int32) = 120 by decide), if_neg (show ¬ (123 : Int32) = 121 by decide), if_neg (show ¬ (123 : Int32) = 122 by decide), if_pos rfl]
    rw [if_neg (show ¬ (23 : Int32) = 4 by decide), if_neg (show ¬ (23 : Int32) = 5 by decide), if_neg (show ¬ (23 : Int32) = 6 by decide), if_neg (show ¬ (23 : Int32) = 7 by decide), if_neg (show ¬ (23 : Int32) = 8 by decide), if_neg (show ¬ (23 : Int32) = 9 by decide), if_neg (show ¬ (23 : Int32) = 10 by decide), if_neg (show ¬ (23 : Int32) = 11 by decide), if_neg (show ¬ (23 : Int32) = 12 by decide), if_neg (show ¬ (23 : Int32) = 13 by decide), if_neg (show ¬ (23 : Int32) = 14 by decide), if_neg (show ¬ (23 : Int32) = 15 by decide), if_neg (show ¬ (23 : Int32) = 16 by decide), if_neg (show ¬ (23 : Int32) = 17 by decide), if_neg (show ¬ (23 : Int32) = 18 by decide), if_neg (show ¬ (23 : Int32) = 19 by decide), if_neg (show ¬ (23 : Int32) = 20 by decide), if_neg (show ¬ (23 : Int32) = 21 by decide), if_neg (show ¬ (23 : Int32) = 22 by decide), if_pos rfl]
    exact rq_uC (night_a H T D hK G)
  · rw [show s.1 45 k = 128 from w, show t.1 1 (110 + 6 * k) = 25 from m]
    rw [if_neg (show ¬ (128 : Int32) = 116 by decide), if_neg (show ¬ (128 : Int32) = 117 by decide), if_neg (show ¬ (128 : Int32) = 118 by decide), if_neg (show ¬ (128 : Int32) = 119 by decide), if_neg (show ¬ (128 : Int32) = 120 by decide), if_neg (show ¬ (128 : Int32) = 121 by decide), if_neg (show ¬ (128 : Int32) = 122 by decide), if_neg (show ¬ (128 : Int32) = 123 by decide)]
    rw [if_neg (show ¬ (25 : Int32) = 4 by decide), if_neg (show ¬ (25 : Int32) = 5 by decide), if_neg (show ¬ (25 : Int32) = 6 by decide), if_neg (show ¬ (25 : Int32) = 7 by decide), if_neg (show ¬ (25 : Int32) = 8 by decide), if_neg (show ¬ (25 : Int32) = 9 by decide), if_neg (show ¬ (25 : Int32) = 10 by decide), if_neg (show ¬ (25 : Int32) = 11 by decide), if_neg (show ¬ (25 : Int32) = 12 by decide), if_neg (show ¬ (25 : Int32) = 13 by decide), if_neg (show ¬ (25 : Int32) = 14 by decide), if_neg (show ¬ (25 : Int32) = 15 by decide), if_neg (show ¬ (25 : Int32) = 16 by decide), if_neg (show ¬ (25 : Int32) = 17 by decide), if_neg (show ¬ (25 : Int32) = 18 by decide), if_neg (show ¬ (25 : Int32) = 19 by decide), if_neg (show ¬ (25 : Int32) = 20 by decide), if_neg (show ¬ (25 : Int32) = 21 by decide), if_neg (show ¬ (25 : Int32) = 22 by decide), if_neg (show ¬ (25 : Int32) = 23 by decide)]
    exact stay
  · exact absurd m n26
  · exact absurd m n27
  · rw [show s.1 45 k = 124 from w]
    rw [if_neg (show ¬ (124 : Int32) = 116 by decide), if_neg (show ¬ (124 : Int32) = 117 by decide), if_neg (show ¬ (124 : Int32) = 118 by decide), if_neg (show ¬ (124 : Int32) = 119 by decide), if_neg (show ¬ (124 : Int32) = 120 by decide), if_neg (show ¬ (124 : Int32) = 121 by decide), if_neg (show ¬ (124 : Int32) = 122 by decide), if_neg (show ¬ (124 : Int32) = 123 by decide)]
    rcases R with ⟨-, m⟩ | ⟨-, m⟩ | ⟨-, -, -, m⟩
    · rw [show t.1 1 (110 + 6 * k) = 2428 from m, if_neg (show ¬ (2428 : Int32) = 4 by decide), if_neg (show ¬ (2428 : Int32) = 5 by decide), if_neg (show ¬ (2428 : Int32) = 6 by decide), if_neg (show ¬ (2428 : Int32) = 7 by decide), if_neg (show ¬ (2428 : Int32) = 8 by decide), if_neg (show ¬ (2428 : Int32) = 9 by decide), if_neg (show ¬ (2428 : Int32) = 10 by decide), if_neg (show ¬ (2428 : Int32) = 11 by decide), if_neg (show ¬ (2428 : Int32) = 12 by decide), if_neg (show ¬ (2428 : Int32) = 13 by decide), if_neg (show ¬ (2428 : Int32) = 14 by decide), if_neg (show ¬ (2428 : Int32) = 15 by decide), if_neg (show ¬ (2428 : Int32) = 16 by decide), if_neg (show ¬ (2428 : Int32) = 17 by decide), if_neg (show ¬ (2428 : Int32) = 18 by decide), if_neg (show ¬ (2428 : Int32) = 19 by decide), if_neg (show ¬ (2428 : Int32) = 20 by decide), if_neg (show ¬ (2428 : Int32) = 21 by decide), if_neg (show ¬ (2428 : Int32) = 22 by decide), if_neg (show ¬ (2428 : Int32) = 23 by decide)]
      exact stay
    · rw [show t.1 1 (110 + 6 * k) = 2429 from m, if_neg (show ¬ (2429 : Int32) = 4 by decide), if_neg (show ¬ (2429 : Int32) = 5 by decide), if_neg (show ¬ (2429 : Int32) = 6 by decide), if_neg (show ¬ (2429 : Int32) = 7 by decide), if_neg (show ¬ (2429 : Int32) = 8 by decide), if_neg (show ¬ (2429 : Int32) = 9 by decide), if_neg (show ¬ (2429 : Int32) = 10 by decide), if_neg (show ¬ (2429 : Int32) = 11 by decide), if_neg (show ¬ (2429 : Int32) = 12 by decide), if_neg (show ¬ (2429 : Int32) = 13 by decide), if_neg (show ¬ (2429 : Int32) = 14 by decide), if_neg (show ¬ (2429 : Int32) = 15 by decide), if_neg (show ¬ (2429 : Int32) = 16 by decide), if_neg (show ¬ (2429 : Int32) = 17 by decide), if_neg (show ¬ (2429 : Int32) = 18 by decide), if_neg (show ¬ (2429 : Int32) = 19 by decide), if_neg (show ¬ (2429 : Int32) = 20 by decide), if_neg (show ¬ (2429 : Int32) = 21 by decide), if_neg (show ¬ (2429 : Int32) = 22 by decide), if_neg (show ¬ (2429 : Int32) = 23 by decide)]
      exact stay
    · rw [show t.1 1 (110 + 6 * k) = 2430 from m, if_neg (show ¬ (2430 : Int32) = 4 by decide), if_neg (show ¬ (2430 : Int32) = 5 by decide), if_neg (show ¬ (2430 : Int32) = 6 by decide), if_neg (show ¬ (2430 : Int32) = 7 by decide), if_neg (show ¬ (2430 : Int32) = 8 by decide), if_neg (show ¬ (2430 : Int32) = 9 by decide), if_neg (show ¬ (2430 : Int32) = 10 by decide), if_neg (show ¬ (2430 : Int32) = 11 by decide), if_neg (show ¬ (2430 : Int32) = 12 by decide), if_neg (show ¬ (2430 : Int32) = 13 by decide), if_neg (show ¬ (2430 : Int32) = 14 by decide), if_neg (show ¬ (2430 : Int32) = 15 by decide), if_neg (show ¬ (2430 : Int32) = 16 by decide), if_neg (show ¬ (2430 : Int32) = 17 by decide), if_neg (show ¬ (2430 : Int32) = 18 by decide), if_neg (show ¬ (2430 : Int32) = 19 by decide), if_neg (show ¬ (2430 : Int32) = 20 by decide), if_neg (show ¬ (2430 : Int32) = 21 by decide), if_neg (show ¬ (2430 : Int32) = 22 by decide), if_neg (show ¬ (2430 : Int32) = 23 by decide)]
      exact stay
theorem act_rz {s t : Sg} (H : NowG 27 s t) (T : TlRz 0 s t) (D : DyEz s t) {K : Int} (hK : 9999 ≤ K ∧ K ≤ 900000000) (G : GnR (t.1 1) K) {k : Nat} (hk : k < 60) (a b : Int32) (ha : a.toInt = (k : Int)) (hb : b.toInt = 110 + 6 * (k : Int)) (R : RwR 24 110 s (t.1 1) k) (V : VdR 110 (t.1 1) k) (n26 : ¬ t.1 1 (110 + 6 * k) = 26) (n27 : ¬ t.1 1 (110 + 6 * k) = 27) : RQ (f_X3_act_25_53_27_5 a s) (f_X12_does b t) (fun _ s' r' t' => ActPz (K + 400) t s' r' t') := by
  have up : ∀ {s' : Sg} {r' : Int32} {t' : Sg}, ActPz K t s' r' t' → ActPz (K + 400) t s' r' t' := fun h => ⟨⟨⟨h.1.1.1, h.1.1.2.1, gn_up h.1.1.2.2 (by omega)⟩, h.1.2⟩, h.2⟩
  have hp : ∀ (j : Nat) (bj : Int32), bj.toInt = (j : Int) → j < 6 → (b + bj).toNatClampNeg = 110 + 6 * k + j := fun j bj z1 z2 => by
    have y : (b + bj).toInt = b.toInt + bj.toInt := i_addx _ _ (by omega)
    exact cl_h (by omega)
  have h0 : b.toNatClampNeg = 110 + 6 * k := cl_h (by omega)
  have b0 := H.1.1.2.1.1
  have stay : RQ (some ((), s)) (some ((1 : Int32), t)) (fun _ s' r' t' => ActPz (K + 400) t s' r' t') := rq_s ⟨⟨⟨H, D, gn_up G (by omega)⟩, kd_l (kl_r (w := true))⟩, Or.inl ⟨rfl, T⟩⟩
  unfold f_X3_act_25_53_27_5 f_X12_does
  refine rq_cC (fun _ => rq_cM (fun _ => rq_nM (fun x2 f2 => rq_cM (fun _ => rq_nM (fun x4 f4 => rq_cM (fun _ => ?_))))))
  rw [hp 1 1 rfl (by decide)] at f2
  rw [hp 2 2 rfl (by decide)] at f4
  rw [h0, cl_h ha]
  obtain ⟨V1, V2, V3, V4, V5, V6, V7⟩ := V
  rcases R with ⟨w, m, th, nu⟩ | ⟨w, m, th, nu, ho⟩ | ⟨w, m, th⟩ | ⟨w, m, nu⟩ | ⟨w, m, nu⟩ | ⟨w, m⟩ | ⟨w, m, nu⟩ | ⟨w, m⟩ | ⟨w, m⟩ | ⟨w, th, R⟩
  · rw [show s.1 45 k = 120 from w, show t.1 1 (110 + 6 * k) = 19 from m]
    rw [if_neg (show ¬ (120 : Int32) = 116 by decide), if_neg (show ¬ (120 : Int32) = 117 by decide), if_neg (show ¬ (120 : Int32) = 118 by decide), if_neg (show ¬ (120 : Int32) = 119 by decide), if_pos rfl]
    rw [if_neg (show ¬ (19 : Int32) = 4 by decide), if_neg (show ¬ (19 : Int32) = 5 by decide), if_neg (show ¬ (19 : Int32) = 6 by decide), if_neg (show ¬ (19 : Int32) = 7 by decide), if_neg (show ¬ (19 : Int32) = 8 by decide), if_neg (show ¬ (19 : Int32) = 9 by decide), if_neg (show ¬ (19 : Int32) = 10 by decide), if_neg (show ¬ (19 : Int32) = 11 by decide), if_neg (show ¬ (19 : Int32) = 12 by decide), if_neg (show ¬ (19 : Int32) = 13 by decide), if_neg (show ¬ (19 : Int32) = 14 by decide), if_neg (show ¬ (19 : Int32) = 15 by decide), if_neg (show ¬ (19 : Int32) = 16 by decide), if_neg (show ¬ (19 : Int32) = 17 by decide), if_neg (show ¬ (19 : Int32) = 18 by decide), if_pos rfl]
    have hv := V1 (Or.inl m)
    have hg := V5 (Or.inl m)
    rw [show t.1 1 (110 + 6 * k + 1) = x2 from f2.symm] at hv
    rw [show t.1 1 (110 + 6 * k + 2) = x4 from f4.symm] at hg
    rw [show s.1 46 k = x2 from th.trans f2.symm, show s.1 47 k = x4 from nu.trans f4.symm]
    refine rq_uC (rq_w (strew_az H T D hK G (h := x2.toInt.toNat) (by omega) (by omega) hv.2 hg) (fun _ _ _ _ g => up g))
  · rw [show s.1 45 k = 119 from w, show t.1 1 (110 + 6 * k) = 20 from m]
    rw [if_neg (show ¬ (119 : Int32) = 116 by decide), if_neg (show ¬ (119 : Int32) = 117 by decide), if_neg (show ¬ (119 : Int32) = 118 by decide), if_pos rfl]
    rw [if_neg (show ¬ (20 : Int32) = 4 by decide), if_neg (show ¬ (20 : Int32) = 5 by decide), if_neg (show ¬ (20 : Int32) = 6 by decide), if_neg (show ¬ (20 : Int32) = 7 by decide), if_neg (show ¬ (20 : Int32) = 8 by decide), if_neg (show ¬ (20 : Int32) = 9 by decide), if_neg (show ¬ (20 : Int32) = 10 by decide), if_neg (show ¬ (20 : Int32) = 11 by decide), if_neg (show ¬ (20 : Int32) = 12 by decide), if_neg (show ¬ (20 : Int32) = 13 by decide), if_neg (show ¬ (20 : Int32) = 14 by decide), if_neg (show ¬ (20 : Int32) = 15 by decide), if_neg (show ¬ (20 : Int32) = 16 by decide), if_neg (show ¬ (20 : Int32) = 17 by decide), if_neg (show ¬ (20 : Int32) = 18 by decide), if_neg (show ¬ (20 : Int32) = 19 by decide), if_pos rfl]
    have hv := V1 (Or.inr (Or.inl m))
    have hg := V5 (Or.inr m)
    have hj := V2 m
    rw [show t.1 1 (110 + 6 * k + 1) = x2 from f2.symm] at hv
    rw [show t.1 1 (110 + 6 * k + 2) = x4 from f4.symm] at hg
    rw [show t.1 1 (110 + 6 * k + 3) = s.1 46 k from th.symm] at hj
    rw [show s.1 48 k = x2 from ho.trans f2.symm, show s.1 47 k = x4 from nu.trans f4.symm]
    refine rq_uC (rq_w (buy_az H T D hK G (a := s.1 46 k) (b := b) (j := (s.1 46 k).toInt.toNat) (h := x2.toInt.toNat) (by omega) (by omega) (by omega) (by omega) hv.2 hg (by rw [hp 3 3 rfl (by decide)]; exact th.symm)) (fun _ _ _ _ g => up g))
  · rw [show s.1 45 k = 121 from w, show t.1 1 (110 + 6 * k) = 21 from m]
    rw [if_neg (show ¬ (121 : Int32) = 116 by decide), if_neg (show ¬ (121 : Int32) = 117 by decide), if_neg (show ¬ (121 : Int32) = 118 by decide), if_neg (show ¬ (121 : Int32) = 119 by decide), if_neg (show ¬ (121 : Int32) = 120 by decide), if_pos rfl]
    rw [if_neg (show ¬ (21 : Int32) = 4 by decide), if_neg (show ¬ (21 : Int32) = 5 by decide), if_neg (show ¬ (21 : Int32) = 6 by decide), if_neg (show ¬ (21 : Int32) = 7 by decide), if_neg (show ¬ (21 : Int32) = 8 by decide), if_neg (show ¬ (21 : Int32) = 9 by decide), if_neg (show ¬ (21 : Int32) = 10 by decide), if_neg (show ¬ (21 : Int32) = 11 by decide), if_neg (show ¬ (21 : Int32) = 12 by decide), if_neg (show ¬ (21 : Int32) = 13 by decide), if_neg (show ¬ (21 : Int32) = 14 by decide), if_neg (show ¬ (21 : Int32) = 15 by decide), if_neg (show ¬ (21 : Int32) = 16 by decide), if_neg (show ¬ (21 : Int32) = 17 by decide), if_neg (show ¬ (21 : Int32) = 18 by decide), if_neg (show ¬ (21 : Int32) = 19 by decide), if_neg (show ¬ (21 : Int32) = 20 by decide), if_pos rfl]
    have hv := V1 (Or.inr (Or.inr (Or.inl m)))
    rw [show t.1 1 (110 + 6 * k + 1) = x2 from f2.symm] at hv
    rw [show s.1 46 k = x2 from th.trans f2.symm]
    refine rq_uC (rq_w (sweep_az H T D hK G (h := x2.toInt.toNat) (by omega) (by omega)) (fun _ _ _ _ g => up g))
  · rw [show s.1 45 k = 116 from w, show t.1 1 (110 + 6 * k) = 4 from m]
    rw [if_pos rfl]
    rw [if_pos rfl]
    rw [show s.1 47 k = x2 from nu.trans f2.symm]
    refine rq_uC (rq_w (rain_az H T D hK G x2) (fun _ _ _ _ g => up g))
  · rw [show s.1 45 k = 122 from w, show t.1 1 (110 + 6 * k) = 22 from m]
    rw [if_neg (show ¬ (122 : Int32) = 116 by decide), if_neg (show ¬ (122 : Int32) = 117 by decide), if_neg (show ¬ (122 : Int32) = 118 by decide), if_neg (show ¬ (122 : Int32) = 119 by decide), if_neg (show ¬ (122 : Int32) = 120 by decide), if_neg (show ¬ (122 : Int32) = 121 by decide), if_pos rfl]
    rw [if_neg (show ¬ (22 : Int32) = 4 by decide), if_neg (show ¬ (22 : Int32) = 5 by decide), if_neg (show ¬ (22 : Int32) = 6 by decide), if_neg (show ¬ (22 : Int32) = 7 by decide), if_neg (show ¬ (22 : Int32) = 8 by decide), if_neg (show ¬ (22 : Int32) = 9 by decide), if_neg (show ¬ (22 : Int32) = 10 by decide), if_neg (show ¬ (22 : Int32) = 11 by decide), if_neg (show ¬ (22 : Int32) = 12 by decide), if_neg (show ¬ (22 : Int32) = 13 by decide), if_neg (show ¬ (22 : Int32) = 14 by decide), if_neg (show ¬ (22 : Int32) = 15 by decide), if_neg (show ¬ (22 : Int32) = 16 by decide), if_neg (show ¬ (22 : Int32) = 17 by decide), if_neg (show ¬ (22 : Int32) = 18 by decide), if_neg (show ¬ (22 : Int32) = 19 by decide), if_neg (show ¬ (22 : Int32) = 20 by decide), if_neg (show ¬ (22 : Int32) = 21 by decide), if_pos rfl]
    have hg := V7 m
    rw [show t.1 1 (110 + 6 * k + 1) = x2 from f2.symm] at hg
    rw [show s.1 47 k = x2 from nu.trans f2.symm]
    refine rq_uC (rq_w (snow_az H T D G hg) (fun _ _ _ _ g => up g))
  · rw [show s.1 45 k = 123 from w, show t.1 1 (110 + 6 * k) = 23 from m]
    rw [if_neg (show ¬ (123 : Int32) = 116 by decide), if_neg (show ¬ (123 : Int32) = 117 by decide), if_neg (show ¬ (123 : Int32) = 118 by decide), if_neg (show ¬ (123 : Int32) = 119 by decide), if_neg (show ¬ (123 : Int32) = 120 by decide), if_neg (show ¬ (123 : Int32) = 121 by decide), if_neg (show ¬ (123 : Int32) = 122 by decide), if_pos rfl]
    rw [if_neg (show ¬ (23 : Int32) = 4 by decide), if_neg (show ¬ (23 : Int32) = 5 by decide), if_neg (show ¬ (23 : Int32) = 6 by decide), if_neg (show ¬ (23 : Int32) = 7 by decide), if_neg (show ¬ (23 : Int32) = 8 by decide), if_neg (show ¬ (23 : Int32) = 9 by decide), if_neg (show ¬ (23 : Int32) = 10 by decide), if_neg (show ¬ (23 : Int32) = 11 by decide), if_neg (show ¬ (23 : Int32) = 12 by decide), if_neg (show ¬ (23 : Int32) = 13 by decide), if_neg (show ¬ (23 : Int32) = 14 by decide), if_neg (show ¬ (23 : Int32) = 15 by decide), if_neg (show ¬ (23 : Int32) = 16 by decide), if_neg (show ¬ (23 : Int32) = 17 by decide), if_neg (show ¬ (23 : Int32) = 18 by decide), if_neg (show ¬ (23 : Int32) = 19 by decide), if_neg (show ¬ (23 : Int32) = 20 by decide), if_neg (show ¬ (23 : Int32) = 21 by decide), if_neg (show ¬ (23 : Int32) = 22 by decide), if_pos rfl]
    exact rq_uC (night_az H T D hK G)
  · rw [show s.1 45 k = 128 from w, show t.1 1 (110 + 6 * k) = 25 from m]
    rw [if_neg (show ¬ (128 : Int32) = 116 by decide), if_neg (show ¬ (128 : Int32) = 117 by decide), if_neg (show ¬ (128 : Int32) = 118 by decide), if_neg (show ¬ (128 : Int32) = 119 by decide), if_neg (show ¬ (128 : Int32) = 120 by decide), if_neg (show ¬ (128 : Int32) = 121 by decide), if_neg (show ¬ (128 : Int32) = 122 by decide), if_neg (show ¬ (128 : Int32) = 123 by decide)]
    rw [if_neg (show ¬ (25 : Int32) = 4 by decide), if_neg (show ¬ (25 : Int32) = 5 by decide), if_neg (show ¬ (25 : Int32) = 6 by decide), if_neg (show ¬ (25 : Int32) = 7 by decide), if_neg (show ¬ (25 : Int32) = 8 by decide), if_neg (show ¬ (25 : Int32) = 9 by decide), if_neg (show ¬ (25 : Int32) = 10 by decide), if_neg (show ¬ (25 : Int32) = 11 by decide), if_neg (show ¬ (25 : Int32) = 12 by decide), if_neg (show ¬ (25 : Int32) = 13 by decide), if_neg (show ¬ (25 : Int32) = 14 by decide), if_neg (show ¬ (25 : Int32) = 15 by decide), if_neg (show ¬ (25 : Int32) = 16 by decide), if_neg (show ¬ (25 : Int32) = 17 by decide), if_neg (show ¬ (25 : Int32) = 18 by decide), if_neg (show ¬ (25 : Int32) = 19 by decide), if_neg (show ¬ (25 : Int32) = 20 by decide), if_neg (show ¬ (25 : Int32) = 21 by decide), if_neg (show ¬ (25 : Int32) = 22 by decide), if_neg (show ¬ (25 : Int32) = 23 by decide)]
    exact stay
  · exact absurd m n26
  · exact absurd m n27
  · rw [show s.1 45 k = 124 from w]
    rw [if_neg (show ¬ (124 : Int32) = 116 by decide), if_neg (show ¬ (124 : Int32) = 117 by decide), if_neg (show ¬ (124 : Int32) = 118 by decide), if_neg (show ¬ (124 : Int32) = 119 by decide), if_neg (show ¬ (124 : Int32) = 120 by decide), if_neg (show ¬ (124 : Int32) = 121 by decide), if_neg (show ¬ (124 : Int32) = 122 by decide), if_neg (show ¬ (124 : Int32) = 123 by decide)]
    rcases R with ⟨-, m⟩ | ⟨-, m⟩ | ⟨-, -, -, m⟩
    · rw [show t.1 1 (110 + 6 * k) = 2428 from m, if_neg (show ¬ (2428 : Int32) = 4 by decide), if_neg (show ¬ (2428 : Int32) = 5 by decide), if_neg (show ¬ (2428 : Int32) = 6 by decide), if_neg (show ¬ (2428 : Int32) = 7 by decide), if_neg (show ¬ (2428 : Int32) = 8 by decide), if_neg (show ¬ (2428 : Int32) = 9 by decide), if_neg (show ¬ (2428 : Int32) = 10 by decide), if_neg (show ¬ (2428 : Int32) = 11 by decide), if_neg (show ¬ (2428 : Int32) = 12 by decide), if_neg (show ¬ (2428 : Int32) = 13 by decide), if_neg (show ¬ (2428 : Int32) = 14 by decide), if_neg (show ¬ (2428 : Int32) = 15 by decide), if_neg (show ¬ (2428 : Int32) = 16 by decide), if_neg (show ¬ (2428 : Int32) = 17 by decide), if_neg (show ¬ (2428 : Int32) = 18 by decide), if_neg (show ¬ (2428 : Int32) = 19 by decide), if_neg (show ¬ (2428 : Int32) = 20 by decide), if_neg (show ¬ (2428 : Int32) = 21 by decide), if_neg (show ¬ (2428 : Int32) = 22 by decide), if_neg (show ¬ (2428 : Int32) = 23 by decide)]
      exact stay
    · rw [show t.1 1 (110 + 6 * k) = 2429 from m, if_neg (show ¬ (2429 : Int32) = 4 by decide), if_neg (show ¬ (2429 : Int32) = 5 by decide), if_neg (show ¬ (2429 : Int32) = 6 by decide), if_neg (show ¬ (2429 : Int32) = 7 by decide), if_neg (show ¬ (2429 : Int32) = 8 by decide), if_neg (show ¬ (2429 : Int32) = 9 by decide), if_neg (show ¬ (2429 : Int32) = 10 by decide), if_neg (show ¬ (2429 : Int32) = 11 by decide), if_neg (show ¬ (2429 : Int32) = 12 by decide), if_neg (show ¬ (2429 : Int32) = 13 by decide), if_neg (show ¬ (2429 : Int32) = 14 by decide), if_neg (show ¬ (2429 : Int32) = 15 by decide), if_neg (show ¬ (2429 : Int32) = 16 by decide), if_neg (show ¬ (2429 : Int32) = 17 by decide), if_neg (show ¬ (2429 : Int32) = 18 by decide), if_neg (show ¬ (2429 : Int32) = 19 by decide), if_neg (show ¬ (2429 : Int32) = 20 by decide), if_neg (show ¬ (2429 : Int32) = 21 by decide), if_neg (show ¬ (2429 : Int32) = 22 by decide), if_neg (show ¬ (2429 : Int32) = 23 by decide)]
      exact stay
    · rw [show t.1 1 (110 + 6 * k) = 2430 from m, if_neg (show ¬ (2430 : Int32) = 4 by decide), if_neg (show ¬ (2430 : Int32) = 5 by decide), if_neg (show ¬ (2430 : Int32) = 6 by decide), if_neg (show ¬ (2430 : Int32) = 7 by decide), if_neg (show ¬ (2430 : Int32) = 8 by decide), if_neg (show ¬ (2430 : Int32) = 9 by decide), if_neg (show ¬ (2430 : Int32) = 10 by decide), if_neg (show ¬ (2430 : Int32) = 11 by decide), if_neg (show ¬ (2430 : Int32) = 12 by decide), if_neg (show ¬ (2430 : Int32) = 13 by decide), if_neg (show ¬ (2430 : Int32) = 14 by decide), if_neg (show ¬ (2430 : Int32) = 15 by decide), if_neg (show ¬ (2430 : Int32) = 16 by decide), if_neg (show ¬ (2430 : Int32) = 17 by decide), if_neg (show ¬ (2430 : Int32) = 18 by decide), if_neg (show ¬ (2430 : Int32) = 19 by decide), if_neg (show ¬ (2430 : Int32) = 20 by decide), if_neg (show ¬ (2430 : Int32) = 21 by decide), if_neg (show ¬ (2430 : Int32) = 22 by decide), if_neg (show ¬ (2430 : Int32) = 23 by decide)]
      exact stay
