/-! days: a step is begun -/
theorem beg_d {n : Nat} {dd : Int} {x : Nat} {s t s' t' : Sg} (h : DyR n 0 0 x s t) (tk : TkRel n s' t') (hdd : dd = 0 ∨ dd = 1) (hd3 : (s.1 9 4).toInt + dd ≤ 3) (h30 : (t.1 0 23).toInt < 30) (c25 : ∀ c, 25 ≤ c → c ≤ 39 → s'.1 c = s.1 c) (k28 : s'.2 28 = s.2 28) (cR : ∀ c, 72 ≤ c → c ≤ 77 → ∀ k, k < x → s'.1 c k = s.1 c k) (c54 : s'.1 54 7 = s.1 54 7 + 1 ∧ s'.1 54 8 = s.1 54 8 + 1 ∧ s'.1 54 6 = s.1 54 6) (c9 : (s'.1 9 4).toInt = (s.1 9 4).toInt + dd) (c23 : ∀ d : Nat, (d : Int) < (s.1 9 4).toInt → s'.1 23 d = s.1 23 d) (c23' : dd = 1 → s'.1 23 (s.1 9 4).toInt.toNat = s.1 54 7) (m2 : t'.2 2 = t.2 2) (m8 : t'.1 8 = t.1 8) (m0 : t'.1 0 18 = t.1 0 18 ∧ t'.1 0 22 = t.1 0 22 ∧ t'.1 0 23 = t.1 0 23 + 1) (m31 : t'.1 1 1931 = t.1 1 1931 + 1) (mM : ∀ p, ¬ p = 1931 → ¬ (2030 + 6 * x ≤ p ∧ p < 2036 + 6 * x) → t'.1 1 p = t.1 1 p) : DyR n dd 1 x s' t' := by
  obtain ⟨⟨⟨h1, h2⟩, h3, N, h4, h5⟩, ⟨⟨p1, p2, p3, p4⟩, ⟨p5, p6⟩, p7, p8⟩, ⟨h7, h9⟩, h8⟩ := h
  have e1 : (1 : Int32).toInt = 1 := rfl
  have eX : (t.1 1 1931 + 1).toInt = (t.1 1 1931).toInt + 1 := i_addx _ _ (by omega)
  have eS : (t.1 0 23 + 1).toInt = (t.1 0 23).toInt + 1 := i_addx _ _ (by omega)
  have pM : ∀ k, PlP k → t'.1 1 k = t.1 1 k := fun k hk => mM k (by
    rcases hk with z | z | z | z | ⟨q', z, z'⟩ | ⟨c', z, z'⟩ | ⟨g', z, z'⟩ <;> omega) (by
    rcases hk with z | z | z | z | ⟨q', z, z'⟩ | ⟨c', z, z'⟩ | ⟨g', z, z'⟩ <;> omega)
  refine ⟨⟨⟨tk, m0.1.trans h2⟩, pln_g h3 (fun k _ _ => by rw [c25 25 (by decide) (by decide)]) (fun i k i1 i2 _ => by rw [c25 (24 + i) (by omega) (by omega)]) pM, N, ?_, ?_⟩, ⟨⟨?_, ?_, ?_, ?_⟩, ⟨?_, ?_⟩, ?_, ?_⟩, ⟨fun d hd => ?_, fun hd => ?_, ns_c h9.2 (fun k hk => ⟨mM _ (by omega) (by omega), mM _ (by omega) (by omega)⟩) m8 m0.2.1⟩, fun k hk => ⟨⟨?_, ?_⟩, fun w1 w2 => ?_⟩⟩
  · rw [c25 25 (by decide) (by decide)]; exact h4
  · have ecn : cnM (t'.1 1) = cnM (t.1 1) := by
      funext q
      unfold cnM
      by_cases z : q < 4
      · rw [if_pos z, if_pos z, pM q (plp_0 (Or.inl z))]
      · rw [if_neg z, if_neg z]
    rw [ecn, m2, c25 29 (by decide) (by decide), c25 30 (by decide) (by decide)]
    show NmR (s'.2 28) _ _ _ _ _
    rw [k28]
    exact h5
  · rw [c54.1, m31, p1]
  · rw [c54.2.1, m0.2.2, p2]
  · rw [c9, m0.2.1]; omega
  · rw [c54.2.2]; exact p4
  · rw [m31]; omega
  · rw [m31, m0.2.1, m0.2.2]; omega
  · rw [m0.2.2]; omega
  · rw [m0.2.1]; omega
  · rw [m0.2.1] at hd
    rw [c23 d (by omega), m8]
    exact h7 d hd
  · rw [m0.2.1, show (t.1 0 22).toInt.toNat = (s.1 9 4).toInt.toNat by omega, c23' hd, p1]
    omega
  · have w := (h8 k hk).1.1
    unfold RwR at w ⊢
    rw [cR 72 (by decide) (by decide) k hk, cR 73 (by decide) (by decide) k hk, cR 74 (by decide) (by decide) k hk, cR 75 (by decide) (by decide) k hk, cR 76 (by decide) (by decide) k hk, mM (2030 + 6 * k) (by omega) (by omega), mM (2030 + 6 * k + 1) (by omega) (by omega), mM (2030 + 6 * k + 2) (by omega) (by omega), mM (2030 + 6 * k + 3) (by omega) (by omega), mM (2030 + 6 * k + 5) (by omega) (by omega)]
    exact w
  · have w := (h8 k hk).1.2
    unfold VdR at w ⊢
    rw [mM (2030 + 6 * k) (by omega) (by omega), mM (2030 + 6 * k + 1) (by omega) (by omega), mM (2030 + 6 * k + 2) (by omega) (by omega), mM (2030 + 6 * k + 3) (by omega) (by omega), pM 0 (plp_0 (by omega)), pM 1 (plp_0 (by omega)), pM 3 (plp_0 (by omega)), pM 9 (plp_0 (by omega))]
    exact w
  · rw [cR 77 (by decide) (by decide) k hk, mM (2030 + 6 * k + 4) (by omega) (by omega)]
    rw [cR 72 (by decide) (by decide) k hk] at w1
    rw [m0.2.1, m8] at w2
    exact (h8 k hk).2 w1 w2
/-- the five places behind a row's kind are cleared -/
def ClZ (x : Nat) (t t' : Sg) : Prop := (∀ c, ¬ c = 1 → t'.1 c = t.1 c) ∧ t'.2 = t.2 ∧ ∀ p, ¬ (2030 + 6 * x < p ∧ p ≤ 2035 + 6 * x) → t'.1 1 p = t.1 1 p
theorem clz_s {x : Nat} {t t' : Sg} (h : ClZ x t t') (j : Nat) (h1 : 1 ≤ j) (h2 : j ≤ 5) (v : Int32) : ClZ x t (pI t' 1 (2030 + 6 * x + j) v) := ⟨fun c hc => (pI_o _ _ _ _ _ hc).trans (h.1 c hc), h.2.1, fun p hp => by
  rw [pI_1, if_neg (fun z => by have := z.2; omega)]
  exact h.2.2 p hp⟩
theorem lp_d {α : Type} {oC : Option (α × Sg)} {R : α → Sg → Int32 → Sg → Prop} {x : Nat} {t0 : Sg} (v1 v2 v3 v4 : Int32) (hx : x < 60) (hb : v3.toInt = 2030 + 6 * (x : Int)) (k : ∀ t', ClZ x t0 t' → RQ oC (bd (f_X12_ahead (pI t' 1 1931 ((t'.1 1 1931) + 1))) (fun _ s9 => bd (f_X12_dayOrder v1 v3 s9) (fun r10 s11 => if r10 = 0 then some (0, s11) else if v4 = 0 then f_X12_dayStep_b227 v1 v2 v3 s11 else ck (inr (s11.1 0 22) 3) (nmx (pI s11 8 ((s11.1 0 22).toNatClampNeg) v2) (fun s23 => f_X12_dayStep_b227 v1 v2 v3 (pI s23 0 22 ((s23.1 0 22) + 1))))))) R) : ∀ (m : Nat) (j : Nat) (v5 : Int32) (t : Sg), v5.toInt = (j : Int) → 1 ≤ j → j ≤ 6 → ClZ x t0 t → RQ oC (f_X12_dayStep_b152 m v1 v2 v3 v4 v5 t) R
  | 0 => fun j v5 t _ _ _ _ => rq_0
  | m + 1 => fun j v5 t hv h1 h2 hz => by
      unfold f_X12_dayStep_b152
      have c6 : (6 : Int32).toInt = 6 := rfl
      refine rq_iM (fun _ => k t hz) (fun c => ?_)
      have c' : ¬ 6 ≤ v5.toInt := fun z => c (Int32.le_iff_toInt_le.mpr (by omega))
      refine rq_cM (fun _ => rq_nM (fun t2 e2 => ?_))
      have ep : (v3 + v5).toNatClampNeg = 2030 + 6 * x + j := row_p hb hx v5 hv (by omega)
      rw [ep] at e2
      rw [e2]
      have e1 : (1 : Int32).toInt = 1 := rfl
      exact lp_d v1 v2 v3 v4 hx hb k m (j + 1) (v5 + 1) _ (by rw [i_addx _ _ (by omega)]; omega) (by omega) (by omega) (clz_s hz j h1 (by omega) 0)
/-- the end of a step: the row stands, the sign is passed -/
noncomputable def kMd (v1 v2 v3 v4 : Int32) : Int32 → Sg → Option (Int32 × Sg) := fun r10 s11 => if r10 = 0 then some (0, s11) else if v4 = 0 then f_X12_dayStep_b227 v1 v2 v3 s11 else ck (inr (s11.1 0 22) 3) (nmx (pI s11 8 ((s11.1 0 22).toNatClampNeg) v2) (fun s23 => f_X12_dayStep_b227 v1 v2 v3 (pI s23 0 22 ((s23.1 0 22) + 1))))
theorem kMd_0 (v1 v2 v3 v4 : Int32) : K0 (kMd v1 v2 v3 v4) := fun t => if_pos rfl
def StpT (n x : Nat) (s0 : Sg) (s t : Sg) : Prop := DyR n 0 0 (x + 1) s t ∧ (s0.1 7 2).toInt ≤ (s.1 7 4).toInt
theorem fin_s {n x : Nat} {s t s0 : Sg} {v1 v2 v3 : Int32} (h : DyR n 0 0 (x + 1) s t) (h26 : ¬ v1 = 26) (hp : (s0.1 7 2).toInt ≤ (s.1 7 4).toInt) : RQ (bd (f_X7_pass 59 s) (fun r s => if r = 0 then some ((0 : Int32), s) else some (1, s))) (f_X12_dayStep_b227 v1 v2 v3 t) (Og (StpT n x s0)) := by
  unfold f_X12_dayStep_b227
  refine rq_iM (fun z => absurd z h26) (fun _ => rq_kM (rq_idM (rq_b2 (pass_s h.1.1.1 h.1.1.2 59 (Or.inl rfl)) (fun r s' r' t' g => ?_))))
  rcases g with ⟨z, z', w⟩ | ⟨z, z', w⟩ <;> subst z <;> subst z'
  · refine rq_iC (fun z => absurd z i10) (fun _ => rq_s (Or.inl ⟨rfl, rfl, (dy_st w h).1, ?_⟩))
    have := tk_pos h.1.1.1
    have := w.2.2.2
    omega
  · exact rq_iC (fun _ => rq_s (Or.inr ⟨rfl, rfl, w⟩)) (fun z => absurd rfl z)
theorem b249_1 (s : Sg) : f_X1_takeStep_b249 1 s = bd (f_X7_pass 59 s) (fun r s => if r = 0 then some ((0 : Int32), s) else some (1, s)) := by
  unfold f_X1_takeStep_b249
  exact if_neg i10
theorem fin_0 {n x : Nat} {s t s0 : Sg} {v1 v2 v3 : Int32} (D : DyR n 0 1 x s t) (w : RwR 51 2030 s (t.1 1) x ∧ VdR 2030 (t.1 1) x) (nb : ¬ (s.1 72 x = 124 ∨ s.1 72 x = 128 ∨ s.1 72 x = 129)) (h26 : ¬ v1 = 26) (hp : (s0.1 7 2).toInt ≤ (s.1 7 4).toInt) : RQ (f_X1_takeStep_b249 1 s) (kMd v1 v2 v3 0 1 t) (Og (StpT n x s0)) := by
  rw [b249_1]
  unfold kMd
  exact rq_iM (fun z => absurd z i10) (fun _ => rq_iM (fun _ => fin_s (row_k D w nb) h26 hp) (fun z => absurd rfl z))
theorem fin_1 {n x : Nat} {s t s0 : Sg} {v1 v2 v3 : Int32} (D : DyR n 1 1 x s t) (w : RwR 51 2030 s (t.1 1) x ∧ VdR 2030 (t.1 1) x) (hb : s.1 72 x = 124 ∨ s.1 72 x = 128) (hv : v2.toInt = (x : Int)) (h26 : ¬ v1 = 26) (hp : (s0.1 7 2).toInt ≤ (s.1 7 4).toInt) : RQ (f_X1_takeStep_b249 1 s) (kMd v1 v2 v3 1 1 t) (Og (StpT n x s0)) := by
  rw [b249_1]
  unfold kMd
  refine rq_iM (fun z => absurd z i10) (fun _ => rq_iM (fun z => absurd z i10) (fun _ => rq_cM (fun _ => rq_nM (fun t2 e2 => ?_))))
  rw [e2]
  have e22 : (pI t 8 ((t.1 0 22).toNatClampNeg) v2).1 0 22 = t.1 0 22 := q_nc rfl
  rw [e22]
  exact fin_s (row_b D w hb v2 hv) h26 hp
theorem clz_fr {x : Nat} {t t' : Sg} (h : ClZ x t t') : Fr cdN (2 ^ 1) t t' := fun c k hb => by
  by_cases z : c = 1
  · subst z
    have y : cdN 1 k = 1 := rfl
    rw [y] at hb
    exact absurd hb (by decide)
  · exact ⟨by rw [h.1 c z], by rw [h.2.1]⟩
/-- both sides say what is wrong -/
theorem flk_d {n : Nat} {s t : Sg} {H : Sg → Sg → Prop} (h : TkRel n s t) (h0 : t.1 0 18 = 0) (a : Int32) (ha : 0 < a.toInt) (KK : Sg → Option (Int32 × Sg)) : RQ (bd (bd (f_X7_wrong a s) (fun r s => ck (r = 0 ∨ r = 1) (some (r, s)))) (fun r s => if r = 0 then some ((0 : Int32), s) else KK s)) (bd (f_X12_fails a t) (fun r t => ck (r = 0 ∨ r = 1) (some (r, t)))) (Og H) := by
  refine rc_b (rq_b2 (fails_r h h0 a ha) (fun r1 s1 r2 t1 g => ?_))
  obtain ⟨g1, g2, g3⟩ := g
  rw [g1, g2]
  exact rc_c (fun _ => rc_s (rq_iC (fun _ => rq_cM (fun _ => rq_s (Or.inr ⟨rfl, rfl, g3⟩))) (fun y => absurd rfl y)))
theorem bg_k {n x : Nat} {dd : Int} {s t sA : Sg} (h : DyR n 0 0 x s t) (W Kd v4 b : Int32) (hdd : dd = 0 ∨ dd = 1) (hd3 : (s.1 9 4).toInt + dd ≤ 3) (h30 : (t.1 0 23).toInt < 30) (h26 : ¬ Kd = 26) (hb : b.toInt = 2030 + 6 * (x : Int)) (tk : TkRel n sA t) (cA : ∀ c, ¬ c = 9 → ¬ c = 23 → sA.1 c = s.1 c) (kA : sA.2 = s.2) (c9 : (sA.1 9 4).toInt = (s.1 9 4).toInt + dd) (c23 : ∀ d : Nat, (d : Int) < (s.1 9 4).toInt → sA.1 23 d = s.1 23 d) (c23' : dd = 1 → sA.1 23 (s.1 9 4).toInt.toNat = s.1 54 7) (ho : ∀ s' t', DyR n dd 1 x s' t' → s'.1 72 x = W → t'.1 1 (2030 + 6 * x) = Kd → (s.1 7 2).toInt ≤ (s'.1 7 4).toInt → RQ (OrC W (s.1 54 7) s') (bd (f_X12_dayOrder Kd b t') (kMd Kd (t.1 1 1931) b v4)) (Og (StpT n x s))) : RQ (bd (f_X1_beginStep_b129 W sA) (fun r s2 => if r = 0 then some ((0 : Int32), s2) else ck (inr (s.1 54 7) 60) (OrC (s2.1 72 ((s.1 54 7).toNatClampNeg)) (s.1 54 7) s2))) (f_X12_dayStep_b122 Kd (t.1 1 1931) b v4 t) (Og (StpT n x s)) := by
  obtain ⟨⟨q1, q2, q3, q4⟩, ⟨q5, q6⟩, q7, q8⟩ := h.2.1
  have hx : x < 60 := by omega
  have c54 : sA.1 54 = s.1 54 := cA 54 (by decide) (by decide)
  have x54 : (s.1 54 7).toNatClampNeg = x := cl_h (by rw [q1]; omega)
  unfold f_X1_beginStep_b129 f_X12_dayStep_b122
  refine rc_c (fun _ => rc_n (fun s8 e8 => rc_n (fun s9 e9 => rc_b ?_)))
  refine rq_iM (fun z => absurd z h26) (fun _ => rq_cM (fun _ => rq_nM (fun t27 e27 => ?_)))
  rw [c54, x54] at e8
  rw [row_0 hb] at e27
  have z27 : ClZ x t27 t27 := ⟨fun _ _ => rfl, rfl, fun _ _ => rfl⟩
  refine lp_d (x := x) (t0 := t27) Kd (t.1 1 1931) b v4 hx hb (fun t' hz => ?_) BIG 1 1 t27 rfl (by decide) (by decide) z27
  have k8 : s8.1 54 = s.1 54 := by rw [e8, pI_o _ _ _ _ _ (by decide), c54]
  have e9' : s9 = pI (pI s8 54 7 ((s.1 54 7) + 1)) 54 8 ((s.1 54 8) + 1) := by
    rw [e9, pI_1, if_neg (by decide), k8]
  have f1 : TkRel n s8 t := by
    rw [e8]
    exact tk_f (L1 := 2 ^ 72) (L2 := 0) tk (fr_x 72 rfl) fr_r (m_and rfl) rfl
  have f2 : TkRel n s9 t := by
    rw [e9']
    exact tk_f (L1 := 2 ^ 220) (L2 := 0) (tk_f (L1 := 2 ^ 219) (L2 := 0) f1 (fr_x 219 rfl) fr_r (m_and rfl) rfl) (fr_x 220 rfl) fr_r (m_and rfl) rfl
  have f3 : TkRel n s9 t27 := by
    rw [e27]
    exact tk_f (L1 := 0) (L2 := 2 ^ 1) (tk_f (L1 := 0) (L2 := 2 ^ 43) f2 fr_r (fr_x 43 rfl) rfl (m_and rfl)) fr_r (fr_x 1 rfl) rfl (m_and rfl)
  have f4 : TkRel n s9 t' := tk_f (L1 := 0) (L2 := 2 ^ 1) f3 fr_r (clz_fr hz) rfl (m_and rfl)
  have f5 : TkRel n s9 (pI t' 1 1931 ((t'.1 1 1931) + 1)) := tk_f (L1 := 0) (L2 := 2 ^ 1) f4 fr_r (fr_x 1 rfl) rfl (m_and rfl)
  have g9 : ∀ c, ¬ c = 9 → ¬ c = 23 → ¬ c = 54 → ¬ c = 72 → s9.1 c = s.1 c := fun c z1 z2 z3 z4 => by
    rw [e9', pI_o _ _ _ _ _ z3, pI_o _ _ _ _ _ z3, e8, pI_o _ _ _ _ _ z4, cA c z1 z2]
  have g9a : ∀ c, ¬ c = 54 → ¬ c = 72 → s9.1 c = sA.1 c := fun c z3 z4 => by
    rw [e9', pI_o _ _ _ _ _ z3, pI_o _ _ _ _ _ z3, e8, pI_o _ _ _ _ _ z4]
  have g72 : ∀ k, s9.1 72 k = if k = x then W else s.1 72 k := fun k => by
    rw [e9', pI_o _ _ _ _ _ (by decide), pI_o _ _ _ _ _ (by decide), e8, pI_1]
    by_cases z : k = x
    · rw [if_pos ⟨rfl, z⟩, if_pos z]
    · rw [if_neg (fun y => z y.2), if_neg z, cA 72 (by decide) (by decide)]
  have h27 : ∀ p, ¬ p = 2030 + 6 * x + 0 → t27.1 1 p = t.1 1 p := fun p hp => by
    rw [e27, pI_1, if_neg (fun z => hp z.2), pI_o _ _ _ _ _ (by decide)]
  have h31 : t'.1 1 1931 = t.1 1 1931 := by rw [hz.2.2 1931 (by omega), h27 1931 (by omega)]
  have h27c : ∀ c, ¬ c = 0 → ¬ c = 1 → t27.1 c = t.1 c := fun c z1 z2 => by
    rw [e27, pI_o _ _ _ _ _ z2, pI_o _ _ _ _ _ z1]
  have h270 : ∀ k, t27.1 0 k = if k = 23 then (t.1 0 23) + 1 else t.1 0 k := fun k => by
    rw [e27, pI_o _ _ _ _ _ (by decide), pI_1]
    by_cases z : k = 23
    · rw [if_pos ⟨rfl, z⟩, if_pos z]
    · rw [if_neg (fun y => z y.2), if_neg z]
  have D : DyR n dd 1 x s9 (pI t' 1 1931 ((t'.1 1 1931) + 1)) := by
    refine beg_d h f5 hdd hd3 h30 (fun c z1 z2 => g9 c (by omega) (by omega) (by omega) (by omega)) (by rw [e9', e8, ← kA]; rfl) (fun c z1 z2 k hk => ?_) ⟨?_, ?_, ?_⟩ (by rw [g9a 9 (by decide) (by decide)]; exact c9) (fun d hd => by rw [g9a 23 (by decide) (by decide)]; exact c23 d hd) (fun z => by rw [g9a 23 (by decide) (by decide)]; exact c23' z) ?_ ?_ ⟨?_, ?_, ?_⟩ ?_ (fun p z1 z2 => ?_)
    · by_cases z : c = 72
      · subst z
        rw [g72, if_neg (by omega)]
      · rw [g9 c (by omega) (by omega) (by omega) z]
    · rw [e9', pI_1, if_neg (by decide), q_eq]
    · rw [e9', q_eq]
    · rw [e9', pI_1, if_neg (by decide), pI_1, if_neg (by decide), k8]
    · show t'.2 2 = t.2 2
      rw [hz.2.1, e27]
      rfl
    · rw [pI_o _ _ _ _ _ (by decide), hz.1 8 (by decide), h27c 8 (by decide) (by decide)]
    · rw [pI_o _ _ _ _ _ (by decide), hz.1 0 (by decide), h270, if_neg (by decide)]
    · rw [pI_o _ _ _ _ _ (by decide), hz.1 0 (by decide), h270, if_neg (by decide)]
    · rw [pI_o _ _ _ _ _ (by decide), hz.1 0 (by decide), h270, if_pos rfl]
    · rw [q_eq, h31]
    · rw [pI_1, if_neg (fun y => z1 y.2), hz.2.2 p (by omega), h27 p (by omega)]
  refine rq_b2 (adv_s D.1.1.1) (fun _ s11 _ t11 w => rc_s (rq_iC (fun z => absurd z i10) (fun _ => rq_cC (fun _ => ?_))))
  obtain ⟨D2, C2⟩ := dy_st w D
  have w72 : s11.1 72 x = W := by rw [C2.1 72 (by decide) (by decide), g72, if_pos rfl]
  have m11 : t11.1 1 (2030 + 6 * x) = Kd := by
    rw [C2.2, pI_1, if_neg (fun y => by have := y.2; omega), hz.2.2 _ (by omega), e27]
    exact q_eq
  have l9 : s9.1 7 2 = s.1 7 2 := by rw [g9 7 (by decide) (by decide) (by decide) (by decide)]
  have pw := w.2.2.2
  rw [l9] at pw
  rw [x54, w72]
  exact ho s11 t11 D2 w72 m11 pw
theorem stp_d {n x : Nat} {dd : Int} {s t : Sg} (h : DyR n 0 0 x s t) (W Kd v4 : Int32) (hB : f_X1_beginStep s = f_X1_beginStep_b26 W v4 s) (hS : PQ (f_X1_isStepWord W s) (fun r s' => s' = s ∧ r = 1)) (h26 : ¬ Kd = 26) (h4 : (v4 = 0 ∧ dd = 0) ∨ (v4 = 1 ∧ dd = 1)) (hb42 : ∀ x3, f_X12_dayStep_b42 Kd (t.1 1 1931) x3 v4 t = f_X12_dayStep_b61 Kd (t.1 1 1931) x3 v4 t) (ho : ∀ s' t', DyR n dd 1 x s' t' → s'.1 72 x = W → t'.1 1 (2030 + 6 * x) = Kd → (s.1 7 2).toInt ≤ (s'.1 7 4).toInt → x < 60 → RQ (OrC W (s.1 54 7) s') (bd (f_X12_dayOrder Kd (2030 + 6 * (t.1 1 1931)) t') (kMd Kd (t.1 1 1931) (2030 + 6 * (t.1 1 1931)) v4)) (Og (StpT n x s))) : RQ (f_X1_takeStep s) (f_X12_dayStep_b42 Kd (t.1 1 1931) (2030 + 6 * (t.1 1 1931)) v4 t) (Og (StpT n x s)) := by
  have tk := h.1.1.1
  have h0 := h.1.1.2
  obtain ⟨⟨q1, q2, q3, q4⟩, ⟨q5, q6⟩, q7, q8⟩ := h.2.1
  have c30 : (30 : Int32).toInt = 30 := rfl
  have c60 : (60 : Int32).toInt = 60 := rfl
  have c3 : (3 : Int32).toInt = 3 := rfl
  have c6 : (6 : Int32).toInt = 6 := rfl
  have c2030 : (2030 : Int32).toInt = 2030 := rfl
  have em : (6 * (t.1 1 1931)).toInt = 6 * (t.1 1 1931).toInt := by
    rw [i_mulx _ _ (by rw [c6]; omega), c6]
  have hb : (2030 + 6 * (t.1 1 1931)).toInt = 2030 + 6 * (x : Int) := by
    rw [i_addx _ _ (by rw [em, c2030]; omega), em, c2030]
    omega
  rw [ts_e, hB, hb42]
  unfold f_X1_beginStep_b26 f_X12_dayStep_b61
  refine rc_b (rq_bC hS (fun r s2 m => ?_))
  obtain ⟨es, er⟩ := m
  rw [es, er]
  refine rc_i (fun z => absurd z i10) (fun _ => rq_iM (fun z => absurd z h26) (fun _ => ?_))
  unfold f_X12_dayStep_b80
  refine rq_iM (fun z => absurd z h26) (fun _ => rc_i (fun c => ?_) (fun c => ?_))
  · have y : t.1 0 23 = 30 := by
      have := Int32.le_iff_toInt_le.mp c
      rw [q2] at this
      exact Int32.toInt_inj.mp (by omega)
    exact rq_iM (fun _ => flk_d tk h0 6 (by decide) _) (fun z => absurd y z)
  · have c' := i_nle c
    rw [q2] at c'
    have h30 : (t.1 0 23).toInt < 30 := by omega
    have hx : x < 60 := by omega
    refine rq_iM (fun z => ?_) (fun _ => rc_i (fun _ => ?_) (fun z => ?_))
    · rw [z] at h30
      omega
    · unfold f_X12_dayStep_b102
      rcases h4 with ⟨z, z'⟩ | ⟨z, z'⟩ <;> subst z <;> subst z'
      · refine rc_i (fun _ => rq_iM (fun _ => ?_) (fun z => absurd rfl z)) (fun z => absurd rfl z)
        unfold f_X1_beginStep_b99
        refine rc_i (fun _ => ?_) (fun z => absurd rfl z)
        exact bg_k h W Kd 0 _ (Or.inl rfl) (by omega) h30 h26 hb tk (fun _ _ _ => rfl) rfl (by omega) (fun _ _ => rfl) (fun z => absurd z (by decide)) (fun s' t' y1 y2 y3 y4 => ho s' t' y1 y2 y3 y4 hx)
      · refine rc_i (fun z => absurd z i10) (fun _ => rq_iM (fun z => absurd z i10) (fun _ => rc_i (fun c4 => ?_) (fun c4 => ?_)))
        · have d3 := Int32.lt_iff_toInt_lt.mp c4
          refine rq_iM (fun z => ?_) (fun _ => ?_)
          · rw [z] at q3
            omega
          · unfold f_X1_beginStep_b99
            refine rc_i (fun z => absurd z i10) (fun _ => rc_c (fun _ => rc_n (fun s13 e13 => ?_)))
            have e1 : (1 : Int32).toInt = 1 := rfl
            have k9 : s13.1 9 4 = s.1 9 4 := by rw [e13, q_nc rfl]
            rw [k9]
            have ea : ((s.1 9 4) + 1).toInt = (s.1 9 4).toInt + 1 := i_addx _ _ (by omega)
            have cl := cl_nat (s.1 9 4)
            have tA : TkRel n (pI s13 9 4 ((s.1 9 4) + 1)) t := by
              rw [e13]
              exact tk_f (L1 := 2 ^ 228) (L2 := 0) (tk_f (L1 := 2 ^ 23) (L2 := 0) tk (fr_x 23 rfl) fr_r (m_and rfl) rfl) (fr_x 228 rfl) fr_r (m_and rfl) rfl
            have c23 : ∀ d, (pI s13 9 4 ((s.1 9 4) + 1)).1 23 d = if d = (s.1 9 4).toNatClampNeg then s.1 54 7 else s.1 23 d := fun d => by
              rw [pI_o _ _ _ _ _ (by decide), e13, pI_1]
              by_cases z : d = (s.1 9 4).toNatClampNeg
              · rw [if_pos ⟨rfl, z⟩, if_pos z]
              · rw [if_neg (fun y => z y.2), if_neg z]
            exact bg_k h W Kd 1 _ (Or.inr rfl) (by omega) h30 h26 hb tA (fun c z1 z2 => by rw [pI_o _ _ _ _ _ z1, e13, pI_o _ _ _ _ _ z2]) (by rw [e13]; rfl) (by rw [q_eq]; exact ea) (fun d hd => by rw [c23, if_neg (by omega)]) (fun _ => by rw [c23, if_pos (by omega)]) (fun s' t' y1 y2 y3 y4 => ho s' t' y1 y2 y3 y4 hx)
        · have d3 : ¬ (s.1 9 4).toInt < 3 := fun y => c4 (Int32.lt_iff_toInt_lt.mpr (by omega))
          have y : t.1 0 22 = 3 := Int32.toInt_inj.mp (by omega)
          exact rq_iM (fun _ => flk_d tk h0 7 (by decide) _) (fun z => absurd y z)
    · exact absurd (Int32.lt_iff_toInt_lt.mpr (by rw [q1]; omega)) z
/-! days: any step, an END, all of the text -/
theorem kw_s {k r : Int32} (h : KwS k r) : ((k = 116 ∧ r = 4) ∨ (k = 119 ∧ r = 20) ∨ (k = 120 ∧ r = 19) ∨ (k = 121 ∧ r = 21) ∨ (k = 122 ∧ r = 22) ∨ (k = 123 ∧ r = 23) ∨ (k = 124 ∧ r = 24) ∨ (k = 128 ∧ r = 25) ∨ (k = 129 ∧ r = 26) ∨ (k = 130 ∧ r = 27)) ∨ ((¬ k.toInt = 116 ∧ ¬ k.toInt = 130 ∧ ¬ k.toInt = 128 ∧ ¬ k.toInt = 129 ∧ ¬ (119 ≤ k.toInt ∧ k.toInt ≤ 124)) ∧ ¬ r = 4 ∧ (r.toInt < 19 ∨ 27 < r.toInt)) := by
  have ei : ∀ {a b : Int32}, a.toInt = b.toInt → a = b := fun y => Int32.toInt_inj.mp y
  rcases h with ⟨i, hi, hk, hr⟩ | ⟨hk, hr⟩
  · have d : ∀ i, i < 31 → ((i = 16 ∧ permK.getD i 0 = 4) ∨ (i = 19 ∧ permK.getD i 0 = 20) ∨ (i = 20 ∧ permK.getD i 0 = 19) ∨ (i = 21 ∧ permK.getD i 0 = 21) ∨ (i = 22 ∧ permK.getD i 0 = 22) ∨ (i = 23 ∧ permK.getD i 0 = 23) ∨ (i = 24 ∧ permK.getD i 0 = 24) ∨ (i = 28 ∧ permK.getD i 0 = 25) ∨ (i = 29 ∧ permK.getD i 0 = 26) ∨ (i = 30 ∧ permK.getD i 0 = 27)) ∨ ((¬ i = 16 ∧ ¬ i = 30 ∧ ¬ i = 28 ∧ ¬ i = 29 ∧ ¬ (19 ≤ i ∧ i ≤ 24)) ∧ ¬ permK.getD i 0 = 4 ∧ (permK.getD i 0 < 19 ∨ 27 < permK.getD i 0)) := by decide +kernel
    rcases d i hi with y | ⟨y1, y2, y3⟩
    · left
      rcases y with ⟨z, z'⟩ | ⟨z, z'⟩ | ⟨z, z'⟩ | ⟨z, z'⟩ | ⟨z, z'⟩ | ⟨z, z'⟩ | ⟨z, z'⟩ | ⟨z, z'⟩ | ⟨z, z'⟩ | ⟨z, z'⟩
      · exact Or.inl ⟨ei (by rw [hk, z]; rfl), ei (by rw [hr, z']; rfl)⟩
      · exact Or.inr (Or.inl ⟨ei (by rw [hk, z]; rfl), ei (by rw [hr, z']; rfl)⟩)
      · exact Or.inr (Or.inr (Or.inl ⟨ei (by rw [hk, z]; rfl), ei (by rw [hr, z']; rfl)⟩))
      · exact Or.inr (Or.inr (Or.inr (Or.inl ⟨ei (by rw [hk, z]; rfl), ei (by rw [hr, z']; rfl)⟩)))
      · exact Or.inr (Or.inr (Or.inr (Or.inr (Or.inl ⟨ei (by rw [hk, z]; rfl), ei (by rw [hr, z']; rfl)⟩))))
      · exact Or.inr (Or.inr (Or.inr (Or.inr (Or.inr (Or.inl ⟨ei (by rw [hk, z]; rfl), ei (by rw [hr, z']; rfl)⟩)))))
      · exact Or.inr (Or.inr (Or.inr (Or.inr (Or.inr (Or.inr (Or.inl ⟨ei (by rw [hk, z]; rfl), ei (by rw [hr, z']; rfl)⟩))))))
      · exact Or.inr (Or.inr (Or.inr (Or.inr (Or.inr (Or.inr (Or.inr (Or.inl ⟨ei (by rw [hk, z]; rfl), ei (by rw [hr, z']; rfl)⟩)))))))
      · exact Or.inr (Or.inr (Or.inr (Or.inr (Or.inr (Or.inr (Or.inr (Or.inr (Or.inl ⟨ei (by rw [hk, z]; rfl), ei (by rw [hr, z']; rfl)⟩))))))))
      · exact Or.inr (Or.inr (Or.inr (Or.inr (Or.inr (Or.inr (Or.inr (Or.inr (Or.inr ⟨ei (by rw [hk, z]; rfl), ei (by rw [hr, z']; rfl)⟩))))))))
    · refine Or.inr ⟨by omega, fun y => ?_, by omega⟩
      rw [y] at hr
      have : (4 : Int32).toInt = 4 := rfl
      omega
  · refine Or.inr ⟨by omega, fun y => ?_, ?_⟩
    · rw [hr] at y
      exact absurd y (by decide)
    · rw [hr]
      exact Or.inl (by decide)
theorem isw_1 (k : Int32) (s : Sg) (h : k = 116 ∨ k = 130 ∨ k = 128 ∨ (119 ≤ k.toInt ∧ k.toInt ≤ 124)) : PQ (f_X1_isStepWord k s) (fun r s' => s' = s ∧ r = 1) := by
  unfold f_X1_isStepWord f_X11_within
  have c1 : (119 : Int32).toInt = 119 := rfl
  have c2 : (124 : Int32).toInt = 124 := rfl
  refine pq_if (fun _ => pq_s ⟨rfl, rfl⟩) (fun z1 => pq_if (fun _ => pq_s ⟨rfl, rfl⟩) (fun z2 => pq_if (fun _ => pq_s ⟨rfl, rfl⟩) (fun z3 => ?_)))
  have y : 119 ≤ k.toInt ∧ k.toInt ≤ 124 := by
    rcases h with z | z | z | z
    · exact absurd z z1
    · exact absurd z z2
    · exact absurd z z3
    · exact z
  rw [if_neg (fun z => by have := Int32.lt_iff_toInt_lt.mp z; omega), if_neg (fun z => by have := Int32.lt_iff_toInt_lt.mp z; omega)]
  exact pq_s ⟨rfl, rfl⟩
theorem isw_0 (k : Int32) (s : Sg) (h : ¬ k.toInt = 116 ∧ ¬ k.toInt = 130 ∧ ¬ k.toInt = 128 ∧ ¬ (119 ≤ k.toInt ∧ k.toInt ≤ 124)) : PQ (f_X1_isStepWord k s) (fun r s' => s' = s ∧ r = 0) := by
  unfold f_X1_isStepWord f_X11_within
  have c1 : (119 : Int32).toInt = 119 := rfl
  have c2 : (124 : Int32).toInt = 124 := rfl
  refine pq_if (fun z => absurd (by rw [z]; rfl) h.1) (fun z1 => pq_if (fun z => absurd (by rw [z]; rfl) h.2.1) (fun z2 => pq_if (fun z => absurd (by rw [z]; rfl) h.2.2.1) (fun z3 => ?_)))
  by_cases y : k < 119
  · rw [if_pos y]
    exact pq_s ⟨rfl, rfl⟩
  · rw [if_neg y, if_pos (Int32.lt_iff_toInt_lt.mpr (by
      have : ¬ k.toInt < 119 := fun z => y (Int32.lt_iff_toInt_lt.mpr (by omega))
      omega))]
    exact pq_s ⟨rfl, rfl⟩
theorem dy_ab {n x : Nat} {s t : Sg} (h : DyR n 0 0 x s t) (hx : x < 60) : (s.1 54 7).toInt = (x : Int) ∧ (2030 + 6 * (t.1 1 1931)).toInt = 2030 + 6 * (x : Int) ∧ (t.1 1 1931).toInt = (x : Int) := by
  obtain ⟨⟨q1, q2, q3, q4⟩, ⟨q5, q6⟩, q7, q8⟩ := h.2.1
  have c6 : (6 : Int32).toInt = 6 := rfl
  have c2030 : (2030 : Int32).toInt = 2030 := rfl
  have em : (6 * (t.1 1 1931)).toInt = 6 * (t.1 1 1931).toInt := by
    rw [i_mulx _ _ (by rw [c6]; omega), c6]
  refine ⟨by rw [q1]; omega, ?_, by omega⟩
  rw [i_addx _ _ (by rw [em, c2030]; omega), em, c2030]
  omega
theorem hB_0 {s : Sg} {W : Int32} (k : s.1 7 3 = W) (h1 : ¬ W = 124) (h2 : ¬ W = 128) : f_X1_beginStep s = f_X1_beginStep_b26 W 0 s := by
  unfold f_X1_beginStep
  rw [k, if_neg h1, if_neg h2]
theorem hB_1 {s : Sg} {W : Int32} (k : s.1 7 3 = W) (h : W = 124 ∨ W = 128) : f_X1_beginStep s = f_X1_beginStep_b26 W 1 s := by
  unfold f_X1_beginStep
  rw [k]
  by_cases y : W = 124
  · rw [if_pos y]
    rfl
  · rw [if_neg y, if_pos (h.resolve_left y)]
    rfl
theorem b42_e {Kd v2 v3 v4 : Int32} {t : Sg} (h : Kd = 4 ∨ (¬ Kd = 4 ∧ ¬ Kd < 19 ∧ ¬ 27 < Kd)) : f_X12_dayStep_b42 Kd v2 v3 v4 t = f_X12_dayStep_b61 Kd v2 v3 v4 t := by
  unfold f_X12_dayStep_b42
  rcases h with y | ⟨y1, y2, y3⟩
  · rw [if_pos y]
  · rw [if_neg y1, if_neg y2, if_neg y3]
theorem stp_n {n x : Nat} {s t s' : Sg} {dd e : Int} {t' : Sg} (D : DyR n dd e x s' t') (p : (s.1 7 2).toInt ≤ (s'.1 7 4).toInt) : (s.1 7 2).toInt ≤ (s'.1 7 2).toInt := by
  have := tk_pos D.1.1.1
  omega
theorem step_r {n x : Nat} {s t : Sg} (h : DyR n 0 0 x s t) (hk : ¬ s.1 7 3 = 129) : RQ (f_X1_takeStep s) (f_X12_dayStep t) (Og (StpT n x s)) := by
  unfold f_X12_dayStep
  refine rq_bM (word_r h.1.1.1) (fun r t2 m => ?_)
  obtain ⟨et, mk, -⟩ := m
  rw [et]
  refine rq_nM (fun x3 e3 => ?_)
  rw [e3]
  rcases kw_s mk with y | ⟨y1, y2, y3⟩
  · rcases y with ⟨z, z'⟩ | ⟨z, z'⟩ | ⟨z, z'⟩ | ⟨z, z'⟩ | ⟨z, z'⟩ | ⟨z, z'⟩ | ⟨z, z'⟩ | ⟨z, z'⟩ | ⟨z, z'⟩ | ⟨z, z'⟩ <;> subst z'
    · refine rq_iM (fun y => absurd y (by decide)) (fun _ => rq_iM (fun y => absurd y (by decide)) (fun _ => ?_))
      refine stp_d h 116 4 0 (hB_0 z (by decide) (by decide)) (isw_1 _ _ (Or.inl rfl)) (by decide) (Or.inl ⟨rfl, rfl⟩) (fun _ => b42_e (Or.inl rfl)) (fun s' t' D w m p hx => ?_)
      exact ord_116 D hx (kMd_0 _ _ _ _) _ _ (dy_ab h hx).1 (dy_ab h hx).2.1 w m (fun s2 t2 g gw => fin_0 g.1 g.2.1 (by rw [gw, w]; decide) (by decide) (Int.le_trans (stp_n (t := t) D p) g.2.2.1))
    · refine rq_iM (fun y => absurd y (by decide)) (fun _ => rq_iM (fun y => absurd y (by decide)) (fun _ => ?_))
      refine stp_d h 119 20 0 (hB_0 z (by decide) (by decide)) (isw_1 _ _ (Or.inr (Or.inr (Or.inr (by decide))))) (by decide) (Or.inl ⟨rfl, rfl⟩) (fun _ => b42_e (Or.inr (by decide))) (fun s' t' D w m p hx => ?_)
      exact ord_119 D hx (kMd_0 _ _ _ _) _ _ (dy_ab h hx).1 (dy_ab h hx).2.1 w m (fun s2 t2 g gw => fin_0 g.1 g.2.1 (by rw [gw, w]; decide) (by decide) (Int.le_trans (stp_n (t := t) D p) g.2.2.1))
    · refine rq_iM (fun y => absurd y (by decide)) (fun _ => rq_iM (fun y => absurd y (by decide)) (fun _ => ?_))
      refine stp_d h 120 19 0 (hB_0 z (by decide) (by decide)) (isw_1 _ _ (Or.inr (Or.inr (Or.inr (by decide))))) (by decide) (Or.inl ⟨rfl, rfl⟩) (fun _ => b42_e (Or.inr (by decide))) (fun s' t' D w m p hx => ?_)
      exact ord_120 D hx (kMd_0 _ _ _ _) _ _ (dy_ab h hx).1 (dy_ab h hx).2.1 w m (fun s2 t2 g gw => fin_0 g.1 g.2.1 (by rw [gw, w]; decide) (by decide) (Int.le_trans (stp_n (t := t) D p) g.2.2.1))
    · refine rq_iM (fun y => absurd y (by decide)) (fun _ => rq_iM (fun y => absurd y (by decide)) (fun _ => ?_))
      refine stp_d h 121 21 0 (hB_0 z (by decide) (by decide)) (isw_1 _ _ (Or.inr (Or.inr (Or.inr (by decide))))) (by decide) (Or.inl ⟨rfl, rfl⟩) (fun _ => b42_e (Or.inr (by decide))) (fun s' t' D w m p hx => ?_)
      exact ord_121 D hx (kMd_0 _ _ _ _) _ _ (dy_ab h hx).1 (dy_ab h hx).2.1 w m (fun s2 t2 g gw => fin_0 g.1 g.2.1 (by rw [gw, w]; decide) (by decide) (Int.le_trans (stp_n (t := t) D p) g.2.2.1))
    · refine rq_iM (fun y => absurd y (by decide)) (fun _ => rq_iM (fun y => absurd y (by decide)) (fun _ => ?_))
      refine stp_d h 122 22 0 (hB_0 z (by decide) (by decide)) (isw_1 _ _ (Or.inr (Or.inr (Or.inr (by decide))))) (by decide) (Or.inl ⟨rfl, rfl⟩) (fun _ => b42_e (Or.inr (by decide))) (fun s' t' D w m p hx => ?_)
      exact ord_122 D hx (kMd_0 _ _ _ _) _ _ (dy_ab h hx).1 (dy_ab h hx).2.1 w m (fun s2 t2 g gw => fin_0 g.1 g.2.1 (by rw [gw, w]; decide) (by decide) (Int.le_trans (stp_n (t := t) D p) g.2.2.1))
    · refine rq_iM (fun y => absurd y (by decide)) (fun _ => rq_iM (fun y => absurd y (by decide)) (fun _ => ?_))
      refine stp_d h 123 23 0 (hB_0 z (by decide) (by decide)) (isw_1 _ _ (Or.inr (Or.inr (Or.inr (by decide))))) (by decide) (Or.inl ⟨rfl, rfl⟩) (fun _ => b42_e (Or.inr (by decide))) (fun s' t' D w m p hx => ?_)
      exact ord_123 _ _ (fin_0 D ⟨Or.inr (Or.inr (Or.inr (Or.inr (Or.inr (Or.inl ⟨w, m⟩))))), vd_0 (Or.inl m)⟩ (by rw [w]; decide) (by decide) p)
    · refine rq_iM (fun _ => ?_) (fun y => absurd rfl y)
      refine stp_d h 124 24 1 (hB_1 z (Or.inl rfl)) (isw_1 _ _ (Or.inr (Or.inr (Or.inr (by decide))))) (by decide) (Or.inr ⟨rfl, rfl⟩) (fun _ => b42_e (Or.inr (by decide))) (fun s' t' D w m p hx => ?_)
      exact ord_124 D hx (kMd_0 _ _ _ _) _ _ (dy_ab h hx).1 (dy_ab h hx).2.1 w (fun s2 t2 g => fin_1 g.1 g.2.1 (Or.inl (g.2.2.2.trans w)) (dy_ab h hx).2.2 (by decide) (Int.le_trans (stp_n (t := t) D p) g.2.2.1))
    · refine rq_iM (fun y => absurd y (by decide)) (fun _ => rq_iM (fun _ => ?_) (fun y => absurd rfl y))
      refine stp_d h 128 25 1 (hB_1 z (Or.inr rfl)) (isw_1 _ _ (Or.inr (Or.inr (Or.inl rfl)))) (by decide) (Or.inr ⟨rfl, rfl⟩) (fun _ => b42_e (Or.inr (by decide))) (fun s' t' D w m p hx => ?_)
      exact ord_128 D hx (kMd_0 _ _ _ _) _ _ (dy_ab h hx).1 (dy_ab h hx).2.1 w m (fun s2 t2 g gw => fin_1 g.1 g.2.1 (Or.inr (gw.trans w)) (dy_ab h hx).2.2 (by decide) (Int.le_trans (stp_n (t := t) D p) g.2.2.1))
    · exact absurd z hk
    · refine rq_iM (fun y => absurd y (by decide)) (fun _ => rq_iM (fun y => absurd y (by decide)) (fun _ => ?_))
      refine stp_d h 130 27 0 (hB_0 z (by decide) (by decide)) (isw_1 _ _ (Or.inr (Or.inl rfl))) (by decide) (Or.inl ⟨rfl, rfl⟩) (fun _ => b42_e (Or.inr (by decide))) (fun s' t' D w m p hx => ?_)
      exact ord_130 _ _ (fin_0 D ⟨Or.inr (Or.inr (Or.inr (Or.inr (Or.inr (Or.inr (Or.inr (Or.inr (Or.inl ⟨w, m⟩)))))))), vd_0 (Or.inr (Or.inr m))⟩ (by rw [w]; decide) (by decide) p)
  · have c24 : (24 : Int32).toInt = 24 := rfl
    have c25 : (25 : Int32).toInt = 25 := rfl
    have c19 : (19 : Int32).toInt = 19 := rfl
    have c27 : (27 : Int32).toInt = 27 := rfl
    refine rq_iM (fun y => absurd y (fun z => by rw [z] at y3; omega)) (fun _ => rq_iM (fun y => absurd y (fun z => by rw [z] at y3; omega)) (fun _ => ?_))
    have n1 : ¬ s.1 7 3 = 124 := fun z => by
      have c : (124 : Int32).toInt = 124 := rfl
      rw [z] at y1
      omega
    have n2 : ¬ s.1 7 3 = 128 := fun z => by
      have c : (128 : Int32).toInt = 128 := rfl
      rw [z] at y1
      omega
    rw [ts_e, hB_0 rfl n1 n2]
    unfold f_X1_beginStep_b26 f_X12_dayStep_b42
    refine rc_b (rq_bC (isw_0 _ _ ⟨y1.1, y1.2.1, y1.2.2.1, y1.2.2.2.2⟩) (fun r s2 m => ?_))
    obtain ⟨es, er⟩ := m
    rw [es, er]
    refine rc_i (fun _ => rq_iM (fun z => absurd z y2) (fun _ => rq_iM (fun _ => flk_d h.1.1.1 h.1.1.2 2 (by decide) _) (fun z => rq_iM (fun _ => flk_d h.1.1.1 h.1.1.2 2 (by decide) _) (fun z2 => ?_)))) (fun z => absurd rfl z)
    exfalso
    rcases y3 with y3 | y3
    · exact z (Int32.lt_iff_toInt_lt.mpr (by omega))
    · exact z2 (Int32.lt_iff_toInt_lt.mpr (by omega))
/-! days: an END; all of the text -/
theorem end_x {n x pp : Nat} {s t s' t' : Sg} {pv vx : Int32} (h : DyR n 0 0 x s t) (tk : TkRel n s' t') (hd : 1 ≤ (t.1 0 22).toInt) (hx : x < 60) (hpv : pv = s.1 23 ((t.1 0 22).toInt - 1).toNat) (hpp : pv.toInt = (pp : Int)) (hvx : vx = t.1 1 1931) (c25 : ∀ c, 25 ≤ c → c ≤ 39 → s'.1 c = s.1 c) (k28 : s'.2 28 = s.2 28) (cR : ∀ c, 72 ≤ c → c ≤ 76 → ∀ k, k < x → s'.1 c k = s.1 c k) (c72 : s'.1 72 x = 129) (c77 : ∀ k, s'.1 77 k = if k = pp then vx else if k = x then pv else s.1 77 k) (c54 : s'.1 54 7 = s.1 54 7 + 1 ∧ s'.1 54 8 = s.1 54 8 ∧ s'.1 54 6 = s.1 54 6) (c9 : (s'.1 9 4).toInt = (s.1 9 4).toInt - 1) (c23 : s'.1 23 = s.1 23) (m2 : t'.2 2 = t.2 2) (m8 : t'.1 8 = t.1 8) (m0 : t'.1 0 18 = t.1 0 18 ∧ (t'.1 0 22).toInt = (t.1 0 22).toInt - 1 ∧ t'.1 0 23 = t.1 0 23) (m31 : t'.1 1 1931 = t.1 1 1931 + 1) (mM : ∀ p, ¬ p = 1931 → ¬ (2030 + 6 * x ≤ p ∧ p < 2036 + 6 * x) → ¬ p = 2030 + 6 * pp + 4 → t'.1 1 p = t.1 1 p) (mr0 : t'.1 1 (2030 + 6 * x) = 26) (mr4 : t'.1 1 (2030 + 6 * x + 4) = pv) (mp4 : t'.1 1 (2030 + 6 * pp + 4) = vx) : DyR n 0 0 (x + 1) s' t' := by
  obtain ⟨⟨⟨h1, h2⟩, h3, N, h4, h5⟩, ⟨⟨p1, p2, p3, p4⟩, ⟨p5, p6⟩, p7, p8⟩, ⟨h7, h9⟩, h8⟩ := h
  have e1 : (1 : Int32).toInt = 1 := rfl
  have eX : (t.1 1 1931 + 1).toInt = (t.1 1 1931).toInt + 1 := i_addx _ _ (by omega)
  have hst := h7 ((t.1 0 22).toInt - 1).toNat (by omega)
  have hpx : pp < x := by
    rw [← hst.1, ← hpv] at hst
    omega
  have pM : ∀ k, PlP k → t'.1 1 k = t.1 1 k := fun k hk => mM k (by
    rcases hk with z | z | z | z | ⟨q', z, z'⟩ | ⟨c', z, z'⟩ | ⟨g', z, z'⟩ <;> omega) (by
    rcases hk with z | z | z | z | ⟨q', z, z'⟩ | ⟨c', z, z'⟩ | ⟨g', z, z'⟩ <;> omega) (by
    rcases hk with z | z | z | z | ⟨q', z, z'⟩ | ⟨c', z, z'⟩ | ⟨g', z, z'⟩ <;> omega)
  refine ⟨⟨⟨tk, m0.1.trans h2⟩, pln_g h3 (fun k _ _ => by rw [c25 25 (by decide) (by decide)]) (fun i k i1 i2 _ => by rw [c25 (24 + i) (by omega) (by omega)]) pM, N, ?_, ?_⟩, ⟨⟨?_, ?_, ?_, ?_⟩, ⟨?_, ?_⟩, ?_, ?_⟩, ⟨fun d hd => ?_, fun hd => absurd hd (by decide), ?_⟩, fun k hk => ?_⟩
  · rw [c25 25 (by decide) (by decide)]; exact h4
  · have ecn : cnM (t'.1 1) = cnM (t.1 1) := by
      funext q
      unfold cnM
      by_cases z : q < 4
      · rw [if_pos z, if_pos z, pM q (plp_0 (Or.inl z))]
      · rw [if_neg z, if_neg z]
    rw [ecn, m2, c25 29 (by decide) (by decide), c25 30 (by decide) (by decide)]
    show NmR (s'.2 28) _ _ _ _ _
    rw [k28]
    exact h5
  · rw [c54.1, m31, p1]
  · rw [c54.2.1, m0.2.2, p2]
  · rw [c9]; omega
  · rw [c54.2.2]; exact p4
  · rw [m31]; omega
  · rw [m31, m0.2.2]; omega
  · rw [m0.2.2]; omega
  · omega
  · rw [c23, m8]
    have y := h7 d (by omega)
    exact ⟨y.1, y.2.1, by omega⟩
  · have hD : (t.1 0 22).toInt = (((t.1 0 22).toInt - 1).toNat : Int) + 1 := by omega
    unfold NsR
    rw [m8, m0.2.1]
    exact ns_p h9.2 hD (by rw [← hst.1, ← hpv]; exact hpp) (fun k hk => mM _ (by omega) (by omega) (by omega)) mr0 (fun k hk ne => mM _ (by omega) (by omega) (by omega)) (by
      show (t'.1 1 (2030 + 6 * pp + 4)).toInt = _
      rw [mp4, hvx]
      omega) (by
      show (t'.1 1 (2030 + 6 * x + 4)).toInt = _
      rw [mr4]
      exact hpp)
  · by_cases z : k = x
    · subst z
      refine ⟨⟨?_, vd_0 (Or.inr (Or.inl mr0))⟩, fun _ _ => ?_⟩
      · exact Or.inr (Or.inr (Or.inr (Or.inr (Or.inr (Or.inr (Or.inr (Or.inl ⟨c72, mr0⟩)))))))
      · rw [c77, if_neg (by omega), if_pos rfl, mr4]
    · have hk2 : k < x := by omega
      obtain ⟨⟨w1, w2⟩, w3⟩ := h8 k hk2
      refine ⟨⟨?_, ?_⟩, fun y1 y2 => ?_⟩
      · unfold RwR at w1 ⊢
        rw [cR 72 (by decide) (by decide) k hk2, cR 73 (by decide) (by decide) k hk2, cR 74 (by decide) (by decide) k hk2, cR 75 (by decide) (by decide) k hk2, cR 76 (by decide) (by decide) k hk2, mM (2030 + 6 * k) (by omega) (by omega) (by omega), mM (2030 + 6 * k + 1) (by omega) (by omega) (by omega), mM (2030 + 6 * k + 2) (by omega) (by omega) (by omega), mM (2030 + 6 * k + 3) (by omega) (by omega) (by omega), mM (2030 + 6 * k + 5) (by omega) (by omega) (by omega)]
        exact w1
      · unfold VdR at w2 ⊢
        rw [mM (2030 + 6 * k) (by omega) (by omega) (by omega), mM (2030 + 6 * k + 1) (by omega) (by omega) (by omega), mM (2030 + 6 * k + 2) (by omega) (by omega) (by omega), mM (2030 + 6 * k + 3) (by omega) (by omega) (by omega), pM 0 (plp_0 (by omega)), pM 1 (plp_0 (by omega)), pM 3 (plp_0 (by omega)), pM 9 (plp_0 (by omega))]
        exact w2
      · by_cases y : k = pp
        · subst y
          rw [c77, if_pos rfl, mp4]
        · rw [c77, if_neg y, if_neg z, mM (2030 + 6 * k + 4) (by omega) (by omega) (by omega)]
          rw [cR 72 (by decide) (by decide) k hk2] at y1
          refine w3 y1 (fun d hd' => ?_)
          by_cases q : (d : Int) < (t'.1 0 22).toInt
          · have := y2 d q
            rw [m8] at this
            exact this
          · rw [show d = ((t.1 0 22).toInt - 1).toNat by omega, ← hst.1, ← hpv]
            omega
theorem end_r {n x : Nat} {s t : Sg} (h : DyR n 0 0 x s t) (hk : s.1 7 3 = 129) : RQ (f_X1_takeEnd s) (f_X12_dayStep t) (Og (StpT n x s)) := by
  have tk := h.1.1.1
  have h0 := h.1.1.2
  obtain ⟨⟨q1, q2, q3, q4⟩, ⟨q5, q6⟩, q7, q8⟩ := h.2.1
  unfold f_X1_takeEnd f_X12_dayStep
  refine rq_bM (word_r tk) (fun r t2 m => ?_)
  obtain ⟨et, mk, -⟩ := m
  rw [et]
  have er : r = 26 := (kws_eq mk (i := 29) (by decide) (c := 129) (p := 26) rfl (by decide +kernel)).mp hk
  rw [er]
  refine rq_nM (fun x3 e3 => rq_iM (fun y => absurd y (by decide)) (fun _ => rq_iM (fun y => absurd y (by decide)) (fun _ => ?_)))
  rw [b42_e (Or.inr (by decide))]
  unfold f_X12_dayStep_b61
  refine rq_iM (fun _ => ?_) (fun y => absurd rfl y)
  refine rq_iC (fun c => ?_) (fun c => ?_)
  · have z0 : (0 : Int32).toInt = 0 := rfl
    have y : t.1 0 22 = 0 := Int32.toInt_inj.mp (by rw [c] at q3; omega)
    exact rq_iM (fun _ => og_f tk h0 2 (by decide)) (fun z => absurd y z)
  · have z0 : (0 : Int32).toInt = 0 := rfl
    have d0 : ¬ t.1 0 22 = 0 := fun z => c (Int32.toInt_inj.mp (by rw [z] at q3; omega))
    have d0' : ¬ (t.1 0 22).toInt = 0 := fun z => d0 (Int32.toInt_inj.mp z)
    have hd : 1 ≤ (t.1 0 22).toInt := by omega
    have hx : x < 60 := by omega
    obtain ⟨ab1, ab2, ab3⟩ := dy_ab h hx
    rw [← e3] at ab2
    refine rq_iM (fun z => absurd z d0) (fun _ => ?_)
    unfold f_X12_dayStep_b80
    refine rq_iM (fun _ => ?_) (fun y => absurd rfl y)
    unfold f_X12_dayStep_b102
    refine rq_iM (fun _ => ?_) (fun y => absurd rfl y)
    unfold f_X12_dayStep_b122
    have e1 : (1 : Int32).toInt = 1 := rfl
    have c60 : (60 : Int32).toInt = 60 := rfl
    refine rq_iC (fun _ => ?_) (fun z => absurd (Int32.lt_iff_toInt_lt.mpr (by omega)) z)
    have ed : ((s.1 9 4) - 1).toInt = (s.1 9 4).toInt - 1 := i_subx _ _ (by omega)
    have x54 : (s.1 54 7).toNatClampNeg = x := cl_h ab1
    have dN : ((s.1 9 4) - 1).toNatClampNeg = ((t.1 0 22).toInt - 1).toNat := by
      have := cl_nat ((s.1 9 4) - 1)
      omega
    have hst := h.2.2.1.1 ((t.1 0 22).toInt - 1).toNat (by omega)
    refine rq_cC (fun _ => rq_nC (fun x4 f4 => rq_cC (fun _ => rq_nC (fun s6 f6 => rq_cC (fun _ => rq_nC (fun s8 f8 => rq_cC (fun _ => rq_nC (fun s10 f10 => ?_))))))))
    rw [q_eq, dN, pI_o _ _ _ _ _ (by decide)] at f4
    rw [pI_1 s 9 4 _ 54 7, if_neg (by decide), x54] at f6
    have g6 : s6.1 54 7 = s.1 54 7 := by rw [f6, q_nc rfl, q_nc rfl]
    rw [g6, x54] at f8
    have g8 : s8.1 54 7 = s.1 54 7 := by rw [f8, q_nc rfl, g6]
    rw [g8] at f10
    have g10 : s10.1 54 7 = s.1 54 7 := by rw [f10, q_nc rfl, g8]
    rw [g10]
    obtain ⟨pp, hpp⟩ : ∃ pp : Nat, x4.toInt = (pp : Int) := ⟨x4.toInt.toNat, by rw [f4, hst.1]; omega⟩
    rw [cl_h hpp] at f10
    have hpx : pp < x := by
      have := hst.2.2
      rw [← hst.1, ← f4] at this
      omega
    refine rq_iM (fun _ => rq_cM (fun _ => rq_nM (fun t27 f27 => ?_))) (fun y => absurd rfl y)
    rw [row_0 ab2] at f27
    have z27 : ClZ x t27 t27 := ⟨fun _ _ => rfl, rfl, fun _ _ => rfl⟩
    refine lp_d (x := x) (t0 := t27) 26 (t.1 1 1931) x3 0 hx ab2 (fun t' hz => ?_) BIG 1 1 t27 rfl (by decide) (by decide) z27
    have k6 : TkRel n s6 t := by
      rw [f6]
      exact tk_f (L1 := 2 ^ 72) (L2 := 0) (tk_f (L1 := 2 ^ 228) (L2 := 0) tk (fr_x 228 rfl) fr_r (m_and rfl) rfl) (fr_x 72 rfl) fr_r (m_and rfl) rfl
    have k10 : TkRel n s10 t := by
      rw [f10]
      refine tk_f (L1 := 2 ^ 77) (L2 := 0) ?_ (fr_x 77 rfl) fr_r (m_and rfl) rfl
      rw [f8]
      exact tk_f (L1 := 2 ^ 77) (L2 := 0) k6 (fr_x 77 rfl) fr_r (m_and rfl) rfl
    have k11 : TkRel n (pI s10 54 7 ((s.1 54 7) + 1)) t := tk_f (L1 := 2 ^ 219) (L2 := 0) k10 (fr_x 219 rfl) fr_r (m_and rfl) rfl
    have k12 : TkRel n (pI s10 54 7 ((s.1 54 7) + 1)) t27 := by
      rw [f27]
      exact tk_f (L1 := 0) (L2 := 2 ^ 1) (tk_f (L1 := 0) (L2 := 2 ^ 43) k11 fr_r (fr_x 43 rfl) rfl (m_and rfl)) fr_r (fr_x 1 rfl) rfl (m_and rfl)
    have k13 : TkRel n (pI s10 54 7 ((s.1 54 7) + 1)) (pI t' 1 1931 ((t'.1 1 1931) + 1)) := tk_f (L1 := 0) (L2 := 2 ^ 1) (tk_f (L1 := 0) (L2 := 2 ^ 1) k12 fr_r (clz_fr hz) rfl (m_and rfl)) fr_r (fr_x 1 rfl) rfl (m_and rfl)
    have l10 : (pI s10 54 7 ((s.1 54 7) + 1)).1 7 2 = s.1 7 2 := by rw [q_nc rfl, f10, q_nc rfl, f8, q_nc rfl, f6, q_nc rfl, q_nc rfl]
    refine rq_b2 (adv_s k13) (fun _ s12 _ t11 w => ?_)
    rw [do_26]
    refine rm_s (rq_iM (fun z => absurd z i10) (fun _ => rq_iM (fun _ => ?_) (fun z => absurd rfl z)))
    unfold f_X12_dayStep_b227
    refine rq_iM (fun _ => rq_cM (fun _ => rq_cM (fun _ => rq_nM (fun t14 f14 => rq_cM (fun _ => rq_cM (fun _ => rq_nM (fun t17 f17 => ?_))))))) (fun z => absurd rfl z)
    obtain ⟨wc, wm, w0⟩ := st_all w
    have pw := w.2.2.2
    rw [l10] at pw
    -- the reference's cells
    have h27 : ∀ p, ¬ p = 2030 + 6 * x + 0 → t27.1 1 p = t.1 1 p := fun p hp => by
      rw [f27, pI_1, if_neg (fun z => hp z.2), pI_o _ _ _ _ _ (by decide)]
    have h31 : t'.1 1 1931 = t.1 1 1931 := by rw [hz.2.2 1931 (by omega), h27 1931 (by omega)]
    have o0 : ∀ k, ¬ (12 ≤ k ∧ k ≤ 15) → ¬ k = 23 → t11.1 0 k = t.1 0 k := fun k z1 z2 => by
      rw [w0 k z1, pI_o _ _ _ _ _ (by decide), hz.1 0 (by decide), f27, pI_o _ _ _ _ _ (by decide), pI_1, if_neg (fun z => z2 z.2)]
    have o23 : t11.1 0 23 = t.1 0 23 := by
      rw [w0 23 (by omega), pI_o _ _ _ _ _ (by decide), hz.1 0 (by decide), f27, pI_o _ _ _ _ _ (by decide), q_eq]
      exact Int32.add_zero _
    have o8 : t11.1 8 = t.1 8 := by
      rw [(wm 8 (by decide) (by decide)).1, pI_o _ _ _ _ _ (by decide), hz.1 8 (by decide), f27, pI_o _ _ _ _ _ (by decide), pI_o _ _ _ _ _ (by decide)]
    have o1 : t11.1 1 = (pI t' 1 1931 ((t'.1 1 1931) + 1)).1 1 := (wm 1 (by decide) (by decide)).1
    have et22 : ((t.1 0 22) - 1).toInt = (t.1 0 22).toInt - 1 := i_subx _ _ (by omega)
    have dM : ((t.1 0 22) - 1).toNatClampNeg = ((t.1 0 22).toInt - 1).toNat := by
      have := cl_nat ((t.1 0 22) - 1)
      omega
    rw [o0 22 (by omega) (by decide)] at f14
    rw [q_eq, dM, pI_o _ _ _ _ _ (by decide), o8, ← hst.1, ← f4, row_p (j := 4) ab2 hx 4 rfl (by decide)] at f14
    have a8 : t14.1 8 = t.1 8 := by rw [f14, pI_o _ _ _ _ _ (by decide), pI_o _ _ _ _ _ (by decide), o8]
    have a22 : t14.1 0 22 = (t.1 0 22) - 1 := by rw [f14, q_nc rfl, q_eq]
    have c6 : (6 : Int32).toInt = 6 := rfl
    have c2030 : (2030 : Int32).toInt = 2030 := rfl
    have bp : (2030 + 6 * x4).toInt = 2030 + 6 * (pp : Int) := by
      have em : (6 * x4).toInt = 6 * x4.toInt := by rw [i_mulx _ _ (by rw [c6]; omega), c6]
      rw [i_addx _ _ (by rw [em, c2030]; omega), em, c2030]
      omega
    rw [a22, dM, a8, ← hst.1, ← f4, row_p (j := 4) bp (by omega) 4 rfl (by decide)] at f17
    have tkE : TkRel n s12 t17 := by
      rw [f17]
      refine tk_f (L1 := 0) (L2 := 2 ^ 1) ?_ fr_r (fr_x 1 rfl) rfl (m_and rfl)
      rw [f14]
      exact tk_f (L1 := 0) (L2 := 2 ^ 1) (tk_f (L1 := 0) (L2 := 2 ^ 42) w.1 fr_r (fr_x 42 rfl) rfl (m_and rfl)) fr_r (fr_x 1 rfl) rfl (m_and rfl)
    -- the class's cells
    have d12 : ∀ c, c < 160 → ¬ c = 0 → ¬ c = 7 → s12.1 c = (pI s10 54 7 ((s.1 54 7) + 1)).1 c := fun c z1 z2 z3 => (wc c z1 z2 z3).1
    have d10 : ∀ c, ¬ c = 77 → s10.1 c = s6.1 c := fun c z => by rw [f10, pI_o _ _ _ _ _ z, f8, pI_o _ _ _ _ _ z]
    have dS : ∀ c, c < 160 → ¬ c = 0 → ¬ c = 7 → ¬ c = 54 → ¬ c = 77 → ¬ c = 72 → ¬ c = 9 → s12.1 c = s.1 c := fun c z1 z2 z3 z4 z5 z6 z7 => by
      rw [d12 c z1 z2 z3, pI_o _ _ _ _ _ z4, d10 c z5, f6, pI_o _ _ _ _ _ z6, pI_o _ _ _ _ _ z7]
    have dR : ∀ k, s12.1 72 k = if k = x then 129 else s.1 72 k := fun k => by
      rw [d12 72 (by decide) (by decide) (by decide), pI_o _ _ _ _ _ (by decide), d10 72 (by decide), f6, pI_1]
      by_cases z : k = x
      · rw [if_pos ⟨rfl, z⟩, if_pos z]
      · rw [if_neg (fun y => z y.2), if_neg z, pI_o _ _ _ _ _ (by decide)]
    have dP : ∀ k, s12.1 77 k = if k = pp then s.1 54 7 else if k = x then x4 else s.1 77 k := fun k => by
      rw [d12 77 (by decide) (by decide) (by decide), pI_o _ _ _ _ _ (by decide), f10, pI_1]
      by_cases z : k = pp
      · rw [if_pos ⟨rfl, z⟩, if_pos z]
      · rw [if_neg (fun y => z y.2), if_neg z, f8, pI_1]
        by_cases z2 : k = x
        · rw [if_pos ⟨rfl, z2⟩, if_pos z2]
        · rw [if_neg (fun y => z2 y.2), if_neg z2, f6, pI_o _ _ _ _ _ (by decide), pI_o _ _ _ _ _ (by decide)]
    have d54 : ∀ k, s12.1 54 k = if k = 7 then (s.1 54 7) + 1 else s.1 54 k := fun k => by
      rw [d12 54 (by decide) (by decide) (by decide), pI_1]
      by_cases z : k = 7
      · rw [if_pos ⟨rfl, z⟩, if_pos z]
      · rw [if_neg (fun y => z y.2), if_neg z, d10 54 (by decide), f6, pI_o _ _ _ _ _ (by decide), pI_o _ _ _ _ _ (by decide)]
    have D : DyR n 0 0 (x + 1) s12 t17 := by
      refine end_x (pv := x4) (vx := s.1 54 7) (pp := pp) h tkE hd hx f4 hpp q1 (fun c z1 z2 => dS c (by omega) (by omega) (by omega) (by omega) (by omega) (by omega) (by omega)) ?_ (fun c z1 z2 k hk => ?_) (by rw [dR, if_pos rfl]) dP ⟨by rw [d54, if_pos rfl], by rw [d54, if_neg (by decide)], by rw [d54, if_neg (by decide)]⟩ ?_ (dS 23 (by decide) (by decide) (by decide) (by decide) (by decide) (by decide) (by decide)) ?_ ?_ ⟨?_, ?_, ?_⟩ ?_ (fun p z1 z2 z3 => ?_) ?_ ?_ ?_
      · rw [(wc 28 (by decide) (by decide) (by decide)).2, f10, f8, f6]
        rfl
      · by_cases z : c = 72
        · subst z
          rw [dR, if_neg (by omega)]
        · rw [dS c (by omega) (by omega) (by omega) (by omega) (by omega) z (by omega)]
      · rw [d12 9 (by decide) (by decide) (by decide), pI_o _ _ _ _ _ (by decide), d10 9 (by decide), f6, pI_o _ _ _ _ _ (by decide), q_eq]
        exact ed
      · rw [f17, f14]
        show t11.2 2 = t.2 2
        rw [(wm 2 (by decide) (by decide)).2]
        show t'.2 2 = t.2 2
        rw [hz.2.1, f27]
        rfl
      · rw [f17, pI_o _ _ _ _ _ (by decide), a8]
      · rw [f17, q_nc rfl, f14, q_nc rfl, pI_1, if_neg (by decide), o0 18 (by omega) (by decide)]
      · rw [f17, q_nc rfl, a22]
        exact et22
      · rw [f17, q_nc rfl, f14, q_nc rfl, pI_1, if_neg (by decide), o23]
      · rw [f17, pI_1, if_neg (fun z => by have := z.2; omega), f14, pI_1, if_neg (fun z => by have := z.2; omega), pI_o _ _ _ _ _ (by decide), o1, q_eq, h31]
      · rw [f17, pI_1, if_neg (fun z => z3 z.2), f14, pI_1, if_neg (fun z => by have := z.2; omega), pI_o _ _ _ _ _ (by decide), o1, pI_1, if_neg (fun z => z1 z.2), hz.2.2 p (by omega), h27 p (by omega)]
      · rw [f17, pI_1, if_neg (fun z => by have := z.2; omega), f14, pI_1, if_neg (fun z => by have := z.2; omega), pI_o _ _ _ _ _ (by decide), o1, pI_1, if_neg (fun z => by have := z.2; omega), hz.2.2 _ (by omega), f27]
        exact q_eq
      · rw [f17, pI_1, if_neg (fun z => by have := z.2; omega), f14, q_eq]
      · rw [f17, q_eq, q1]
    have pS := pass_s D.1.1.1 D.1.1.2 59 (Or.inl rfl)
    refine rq_kC (rq_kM (rq_w pS (fun r s' r' t' g => ?_)))
    rcases g with ⟨z, z', w'⟩ | g
    · refine Or.inl ⟨z, z', (dy_st w' D).1, ?_⟩
      have := tk_pos D.1.1.1
      have := w'.2.2.2
      omega
    · exact Or.inr g
/-- all of a text: every part, and where it ends -/
theorem dloop {β : Type} {n : Nat} (hn : n ≤ 300) {kC : Int32 → Sg → Option (Int32 × Sg)} {R : Int32 → Sg → β → Sg → Prop} (F : Sg → Option (β × Sg)) (L : Nat → Int32 → Sg → Option (β × Sg)) (L0 : ∀ v t, L 0 v t = none) (L1 : ∀ m v t, L (m + 1) v t = if v = 0 then F t else if (t.1 0 12) = 0 then F t else bd (f_X12_dayStep t) (fun r s => L m r s)) (hS : ∀ x s t, DyR n 0 0 x s t → (t.1 0 22).toInt = 0 → RQ (kC 1 s) (F t) R) (hN : ∀ x s t, DyR n 0 0 x s t → ¬ (t.1 0 22).toInt = 0 → RQ (bd (bd (f_X7_wrong 2 s) (fun r s => if r = 0 then some ((0 : Int32), s) else some (1, s))) kC) (F t) R) (hF : ∀ s t, FtR s t → RQ (kC 0 s) (F t) R) (m : Nat) : ∀ (m' i x : Nat) (v1 v2 : Int32) (s t : Sg), v1.toInt = (i : Int) → ¬ v2 = 0 → (i : Int) ≤ (s.1 7 4).toInt → DyR n 0 0 x s t → RQ (bd (f_X1_takeText_b22 m v1 s) kC) (L m' v2 t) R := by
  induction m with
  | zero => intro m' i x v1 v2 s t _ _ _ _ a s' b t' y; cases y
  | succ m ih =>
    intro m' i x v1 v2 s t h1 h2 hi D
    cases m' with
    | zero => rw [L0]; exact rq_0
    | succ m' =>
      have hp := tk_pos D.1.1.1
      have e1 : (1 : Int32).toInt = 1 := rfl
      have c300 : (300 : Int32).toInt = 300 := rfl
      rw [L1]
      unfold f_X1_takeText_b22
      refine rc_i (fun c => ?_) (fun _ => ?_)
      · have := Int32.lt_iff_toInt_lt.mp c
        omega
      · refine rq_iM (fun z => absurd z h2) (fun _ => ?_)
        have kk : (s.1 7 3 = 0) ↔ (t.1 0 12 = 0) := by
          rcases knd_of D.1.1.1 with z | z | z | z | ⟨z, z' | z' | ⟨j, z', z''⟩⟩
          · exact ⟨fun _ => z.2, fun _ => z.1⟩
          · rw [z.1, z.2]; decide
          · rw [z.1, z.2.1]
          · have y := isS_t z.1
            rw [z.2.1]
            refine ⟨fun q => ?_, fun q => absurd q (by decide)⟩
            rw [q] at y
            exact absurd y (by decide)
          · rw [z, z']
          · rw [z, z']; decide
          · rw [z]
            refine ⟨fun q => ?_, fun q => absurd q (by decide)⟩
            rw [q] at z''
            have c0 : (0 : Int32).toInt = 0 := rfl
            omega
        refine rc_i (fun k0 => rq_iM (fun _ => ?_) (fun z => absurd (kk.mp k0) z)) (fun k0 => rq_iM (fun z => absurd (kk.mpr z) k0) (fun _ => ?_))
        · have q3 := D.2.1.1.2.2.1
          have c0 : (0 : Int32).toInt = 0 := rfl
          refine rc_i (fun z => ?_) (fun z => ?_)
          · refine rc_s (hS x s t D ?_)
            rw [z] at q3
            omega
          · exact hN x s t D (fun y => z (Int32.toInt_inj.mp (by omega)))
        · have lt := tk_lt D.1.1.1 k0
          have ea : (v1 + 1).toInt = v1.toInt + 1 := i_addx _ _ (by omega)
          have fin : ∀ (r : Int32) (s' : Sg) (r' : Int32) (t' : Sg), Og (StpT n x s) r s' r' t' → RQ (bd (if r = 0 then some ((0 : Int32), s') else f_X1_takeText_b22 m (v1 + 1) s') kC) (L m' r' t') R := fun r s' r' t' g => by
            rcases g with ⟨z, z', w, p⟩ | ⟨z, z', w⟩ <;> subst z <;> subst z'
            · exact rc_i (fun z => absurd z i10) (fun _ => ih m' (i + 1) (x + 1) (v1 + 1) 1 s' t' (by omega) i10 (by omega) w)
            · refine rc_i (fun _ => rc_s ?_) (fun z => absurd rfl z)
              cases m' with
              | zero => rw [L0]; exact rq_0
              | succ m' => rw [L1, if_pos rfl]; exact hF s' t' w
          refine rc_i (fun z => rc_b (rq_b2 (end_r D z) fin)) (fun z => rc_b (rq_b2 (step_r D z) fin))
/-! days: the copy; all of days on both sides -/
def CpD (t0 : Sg) (j : Nat) (t : Sg) : Prop := (∀ c, ¬ c = 1 → t.1 c = t0.1 c) ∧ t.2 = t0.2 ∧ ∀ p, t.1 1 p = if 110 ≤ p ∧ p < j then t0.1 1 (1920 + p) else t0.1 1 p
theorem cpd_d (t0 : Sg) (h0 : t0.1 0 18 = 0) (m : Nat) : ∀ (j : Nat) (v3 : Int32) (t : Sg), v3.toInt = (j : Int) → 110 ≤ j → j ≤ 480 → CpD t0 j t → PQ (f_X12_days_b102 m v3 t) (fun r t9 => ∃ t', CpD t0 480 t' ∧ r = t'.1 0 23 ∧ t9 = pI (pI t' 0 16 (t'.1 0 18)) 0 2 0) := by
  induction m with
  | zero => intro j v3 t _ _ _ _ r t9 z; cases z
  | succ m ih =>
    intro j v3 t hv h1 h2 hc
    have c480 : (480 : Int32).toInt = 480 := rfl
    have c1920 : (1920 : Int32).toInt = 1920 := rfl
    have e1 : (1 : Int32).toInt = 1 := rfl
    unfold f_X12_days_b102
    refine pq_if (fun c => ?_) (fun c => ?_)
    · have c := i_le c
      have hj : j = 480 := by omega
      subst hj
      have z18 : t.1 0 18 = 0 := by rw [hc.1 0 (by decide), h0]
      refine pq_b (taken_p _ t) (fun r t9 g => pq_s ?_)
      rcases g with ⟨-, g1, g2⟩ | ⟨g, -⟩
      · exact ⟨t, hc, g1, g2⟩
      · rw [z18] at g
        exact absurd (by decide) g
    · have c := i_nle c
      refine pq_c (fun _ => pq_c (fun _ => pq_n (fun t2 e2 => ?_)))
      have cv : v3.toNatClampNeg = j := cl_h hv
      have cw : (1920 + v3).toNatClampNeg = 1920 + j := cl_h (by rw [i_addx _ _ (by omega)]; omega)
      rw [cv, cw] at e2
      refine ih (j + 1) (v3 + 1) t2 (by rw [i_addx _ _ (by omega)]; omega) (by omega) (by omega) ⟨fun c' hc' => by rw [e2, pI_o _ _ _ _ _ hc']; exact hc.1 c' hc', by rw [e2]; exact hc.2.1, fun p => ?_⟩
      rw [e2, pI_1]
      by_cases z : p = j
      · rw [if_pos ⟨rfl, z⟩, hc.2.2, if_neg (by omega), if_pos (by omega), z]
      · rw [if_neg (fun y => z y.2), hc.2.2]
        by_cases y : 110 ≤ p ∧ p < j
        · rw [if_pos y, if_pos (by omega)]
        · rw [if_neg y, if_neg (by omega)]
/-- the program that is in use, on both sides -/
def PrgR (s : Sg) (M : Nat → Int32) : Prop := (s.1 27 6 = 0 ∧ M 11 = -1) ∨ (s.1 27 6 = 1 ∧ ∃ X : Nat, (s.1 27 7 = M 11 ∧ (M 11).toInt = (X : Int) ∧ X ≤ 60) ∧ (∀ k : Nat, k < X → (RwR 24 110 s M k ∧ VdR 110 M k) ∧ ((s.1 45 k = 124 ∨ s.1 45 k = 128 ∨ s.1 45 k = 129) → s.1 50 k = M (110 + 6 * k + 4))) ∧ ∃ st : Nat → Int32, NsA (fun k => M (110 + 6 * k)) (fun k => M (110 + 6 * k + 4)) st 0 X)
def DayP (s t : Sg) : Prop := PlnR 24 s (t.1 1) ∧ NmsR 24 s (t.2 2) (t.1 1) ∧ PrgR s (t.1 1)
theorem cC_id (c k : Nat) (h0 : ¬ c = 0) (h7 : ¬ c = 7) (h9 : ¬ c = 9) (h52 : ¬ c = 52) (h54 : ¬ c = 54) : cC c k = c := by
  unfold cC
  rw [if_neg h0, if_neg h7, if_neg h52, if_neg h54, if_neg h9]
theorem day_of {n x : Nat} {s t s10 s14 t' : Sg} (h : DyR n 0 0 x s t) (hd : (t.1 0 22).toInt = 0) (es : ∀ c, ¬ c = 0 → s10.1 c = s.1 c) (es2 : s10.2 = s.2) (w : CpI 51 24 [(3, 9), (3, 8), (3, 7), (26, 60), (25, 60), (24, 60), (23, 60), (22, 60), (21, 60)] 0 s10 s14) (f : Fr cC 2216615575814144 s10 s14) (m : CpD (pI t 1 11 (t.1 1 1931)) 480 t') : DayP (pI s14 0 15 0) (pI (pI t' 0 16 (t'.1 0 18)) 0 2 0) := by
  obtain ⟨⟨⟨h1, h2⟩, h3, N, h4, h5⟩, ⟨⟨p1, p2, p3, p4⟩, ⟨p5, p6⟩, p7, p8⟩, ⟨h7, h9⟩, h8⟩ := h
  have hx : x ≤ 60 := by omega
  have eM : (pI (pI t' 0 16 (t'.1 0 18)) 0 2 0).1 1 = t'.1 1 := by rw [pI_o _ _ _ _ _ (by decide), pI_o _ _ _ _ _ (by decide)]
  have eN : (pI (pI t' 0 16 (t'.1 0 18)) 0 2 0).2 2 = t.2 2 := by
    show t'.2 2 = _
    rw [m.2.1]
    rfl
  have lo : ∀ p, p < 110 → ¬ p = 11 → t'.1 1 p = t.1 1 p := fun p y1 y2 => by
    rw [m.2.2, if_neg (by omega), pI_1, if_neg (fun z => y2 z.2)]
  have hi : ∀ p, 110 ≤ p → p < 480 → t'.1 1 p = t.1 1 (1920 + p) := fun p y1 y2 => by
    rw [m.2.2, if_pos ⟨y1, y2⟩, pI_1, if_neg (fun z => by have := z.2; omega)]
  have m11 : t'.1 1 11 = t.1 1 1931 := by rw [m.2.2, if_neg (by omega), q_eq]
  have kS : ∀ c, 25 ≤ c → c ≤ 44 → ¬ c = 27 → (pI s14 0 15 0).1 c = s.1 c ∧ (pI s14 0 15 0).2 c = s.2 c := fun c y1 y2 y3 => by
    have b : ∀ k, Nat.testBit 2216615575814144 (cC c k) = false := fun k => by
      rw [cC_id c k (by omega) (by omega) (by omega) (by omega) (by omega)]
      exact (show ∀ c, c < 45 → ¬ c = 27 → Nat.testBit 2216615575814144 c = false from by decide) c (by omega) y3
    refine ⟨?_, ?_⟩
    · rw [pI_o _ _ _ _ _ (by omega), ← es c (by omega)]
      exact funext fun k => (f c k (b k)).1
    · show s14.2 c = _
      rw [← es2]
      exact funext fun k => (f c k (b k)).2
  have cp : ∀ i k, 21 ≤ i → i ≤ 26 → k < 60 → (pI s14 0 15 0).1 (24 + i) k = s.1 (51 + i) k := fun i k y1 y2 y3 => by
    rw [pI_o _ _ _ _ _ (by omega), w.2.1 i k (by omega) (by omega) ?_ ?_, es _ (by omega)]
    · have : loW i = 0 := by
        unfold loW
        rw [if_neg (by omega), if_neg (by omega), if_neg (by omega)]
      omega
    · have : i = 21 ∨ i = 22 ∨ i = 23 ∨ i = 24 ∨ i = 25 ∨ i = 26 := by omega
      rcases this with z | z | z | z | z | z <;> subst z <;> exact y3
  have c27 : ∀ k, 6 ≤ k → k < 9 → (pI s14 0 15 0).1 27 k = s.1 54 k := fun k y1 y2 => by
    rw [pI_o _ _ _ _ _ (by decide), w.2.1 3 k (by decide) (by decide) y1 y2, es _ (by decide)]
  have pM : ∀ k, PlP k → t'.1 1 k = t.1 1 k := fun k hk => lo k (by
    rcases hk with z | z | z | z | ⟨q', z, z'⟩ | ⟨c', z, z'⟩ | ⟨g', z, z'⟩ <;> omega) (by
    rcases hk with z | z | z | z | ⟨q', z, z'⟩ | ⟨c', z, z'⟩ | ⟨g', z, z'⟩ <;> omega)
  unfold DayP
  rw [eM, eN]
  refine ⟨pln_g h3 (fun k _ _ => by rw [(kS 25 (by decide) (by decide) (by decide)).1]) (fun i k i1 i2 _ => by rw [(kS (24 + i) (by omega) (by omega) (by omega)).1]) pM, ⟨N, ?_, ?_⟩, Or.inr ⟨by rw [c27 6 (by decide) (by decide)]; exact p4, x, ⟨by rw [c27 7 (by decide) (by decide), m11]; exact p1, by rw [m11]; omega, hx⟩, fun k hkx => ?_, t.1 8, ?_⟩⟩
  · rw [(kS 25 (by decide) (by decide) (by decide)).1]; exact h4
  · have ecn : cnM (t'.1 1) = cnM (t.1 1) := by
      funext q
      unfold cnM
      by_cases z : q < 4
      · rw [if_pos z, if_pos z, pM q (plp_0 (Or.inl z))]
      · rw [if_neg z, if_neg z]
    rw [ecn, (kS 29 (by decide) (by decide) (by decide)).1, (kS 30 (by decide) (by decide) (by decide)).1]
    show NmR ((pI s14 0 15 0).2 28) _ _ _ _ _
    rw [(kS 28 (by decide) (by decide) (by decide)).2]
    exact h5
  · obtain ⟨⟨w1, w2⟩, w3⟩ := h8 k hkx
    have g : ∀ j, j < 6 → t'.1 1 (110 + 6 * k + j) = t.1 1 (2030 + 6 * k + j) := fun j hj => by
      rw [hi _ (by omega) (by omega)]
      exact congrArg (t.1 1) (by omega)
    refine ⟨⟨?_, ?_⟩, fun y => ?_⟩
    · unfold RwR at w1 ⊢
      rw [cp 21 k (by decide) (by decide) (by omega), cp 22 k (by decide) (by decide) (by omega), cp 23 k (by decide) (by decide) (by omega), cp 24 k (by decide) (by decide) (by omega), cp 25 k (by decide) (by decide) (by omega), show t'.1 1 (110 + 6 * k) = t.1 1 (2030 + 6 * k) from g 0 (by decide), g 1 (by decide), g 2 (by decide), g 3 (by decide), g 5 (by decide)]
      exact w1
    · unfold VdR at w2 ⊢
      rw [show t'.1 1 (110 + 6 * k) = t.1 1 (2030 + 6 * k) from g 0 (by decide), g 1 (by decide), g 2 (by decide), g 3 (by decide), pM 0 (plp_0 (by omega)), pM 1 (plp_0 (by omega)), pM 3 (plp_0 (by omega)), pM 9 (plp_0 (by omega))]
      exact w2
    · have e45 : (pI s14 0 15 0).1 45 k = s.1 72 k := cp 21 k (by decide) (by decide) (by omega)
      have e50 : (pI s14 0 15 0).1 50 k = s.1 77 k := cp 26 k (by decide) (by decide) (by omega)
      rw [e45] at y
      rw [e50, g 4 (by decide)]
      exact w3 y (fun d hd' => by omega)
  · have w := h9.2
    unfold NsR at w
    rw [hd] at w
    refine ns_e w (fun k hk => ⟨?_, ?_⟩)
    · show t'.1 1 (110 + 6 * k) = t.1 1 (2030 + 6 * k)
      rw [hi _ (by omega) (by omega)]
      exact congrArg (t.1 1) (by omega)
    · show t'.1 1 (110 + 6 * k + 4) = t.1 1 (2030 + 6 * k + 4)
      rw [hi _ (by omega) (by omega)]
      exact congrArg (t.1 1) (by omega)
def FlR (s t : Sg) : Prop := s.1 0 18 = t.1 0 16 ∧ s.1 0 19 = t.1 0 17
def DyPo (r : Int32) (s : Sg) (r' : Int32) (t : Sg) : Prop := r = r' ∧ s.1 0 15 = t.1 0 2 ∧ (s.1 0 15 = 0 → DayP s t) ∧ (s.1 0 15 = 9 → FlR s t)
noncomputable def kCd : Int32 → Sg → Option (Int32 × Sg) := fun r7 s8 => bd (f_X11_closeText s8) (fun _ s10 => if r7 = 0 then bd (f_X11_refuse 9 s10) (fun r11 s12 => some (r11, s12)) else bd (f_X5_copyFrom_54 s10) (fun _ s14 => bd (f_X11_answer (s14.1 27 8) s14) (fun r15 s16 => some (r15, s16))))
theorem hF_77 (s t : Sg) (h : FtR s t) : RQ (kCd 0 s) (f_X12_days_b77 t) DyPo := by
  have h0 : ¬ t.1 0 18 = 0 := fun z => by
    have h3 := h.2.2
    rw [z] at h3
    exact absurd h3 (by decide)
  unfold kCd f_X12_days_b77
  refine rq_bC (ct_x s) (fun _ s10 e => rq_iC (fun _ => rq_iM (fun z => absurd z h0) (fun _ => ?_)) (fun z => absurd rfl z))
  have p : RQ (some ((-1 : Int32), pI s10 0 15 9)) (bd (f_X12_taken (t.1 0 23) t) (fun r t => some (r, t))) DyPo := by
    refine rq_bM (taken_p _ t) (fun r t2 g => rq_s ?_)
    rcases g with ⟨g, -⟩ | ⟨-, g1, g2⟩
    · exact absurd h.2.2 (by omega)
    · refine ⟨g1.symm, by rw [g2, q_eq, q_eq], fun z => absurd z (by rw [q_eq]; decide), fun _ => ⟨?_, ?_⟩⟩
      · rw [g2, q_ne rfl, q_ne rfl, q_eq, e, q_ne rfl, q_eq]
        exact h.1
      · rw [g2, q_ne rfl, q_ne rfl, q_ne rfl, e, q_eq]
        exact h.2.1
  exact p
theorem hF_57 (s t : Sg) (h : FtR s t) : RQ (kCd 0 s) (f_X12_days_b57 t) DyPo := by
  have h0 : ¬ t.1 0 18 = 0 := fun z => by
    have h3 := h.2.2
    rw [z] at h3
    exact absurd h3 (by decide)
  unfold f_X12_days_b57
  exact rq_iM (fun z => absurd z h0) (fun _ => hF_77 s t h)
theorem hN_57 {n x : Nat} (s t : Sg) (h : DyR n 0 0 x s t) (hd : ¬ (t.1 0 22).toInt = 0) : RQ (bd (bd (f_X7_wrong 2 s) (fun r s => if r = 0 then some ((0 : Int32), s) else some (1, s))) kCd) (f_X12_days_b57 t) DyPo := by
  have c0 : (0 : Int32).toInt = 0 := rfl
  have hd0 := h.2.1.2.2.2.1
  unfold f_X12_days_b57
  refine rq_iM (fun _ => rq_iM (fun z => absurd (i_le z) (by omega)) (fun _ => ?_)) (fun z => absurd h.1.1.2 z)
  refine rc_b (rq_b2 (fails_r h.1.1.1 h.1.1.2 2 (by decide)) (fun r1 s1 r2 t1 g => ?_))
  rw [g.1]
  exact rc_i (fun _ => rc_s (hF_77 s1 t1 g.2.2)) (fun z => absurd rfl z)
theorem hS_57 {n x : Nat} (s t : Sg) (h : DyR n 0 0 x s t) (hd : (t.1 0 22).toInt = 0) : RQ (kCd 1 s) (f_X12_days_b57 t) DyPo := by
  have c0 : (0 : Int32).toInt = 0 := rfl
  unfold kCd f_X12_days_b57
  refine rq_bC (ct_x s) (fun _ s10 e => rq_iC (fun z => absurd z i10) (fun _ => rq_bC (pq_and (cq_X5_copyFrom_54 (cpi_0 51 24 s10)) (ft_X5_copyFrom_54 s10)) (fun _ s14 w => ?_)))
  refine rq_iM (fun _ => rq_iM (fun _ => ?_) (fun z => absurd (Int32.le_iff_toInt_le.mpr (by omega)) z)) (fun z => absurd h.1.1.2 z)
  unfold f_X12_days_b77
  refine rq_iM (fun _ => ?_) (fun z => absurd h.1.1.2 z)
  have z18 : (pI t 1 11 (t.1 1 1931)).1 0 18 = 0 := m18_d h.1.1.2
  have es : ∀ c, ¬ c = 0 → s10.1 c = s.1 c := fun c hc => by rw [e, pI_o _ _ _ _ _ hc, pI_o _ _ _ _ _ hc, pI_o _ _ _ _ _ hc]
  have p : RQ (some (s14.1 27 8, pI s14 0 15 0)) (f_X12_days_b102 BIG 110 (pI t 1 11 (t.1 1 1931))) DyPo := by
    refine rq_pp (P := fun r s => r = s14.1 27 8 ∧ s = pI s14 0 15 0) (pq_s ⟨rfl, rfl⟩) (cpd_d _ z18 BIG 110 110 _ rfl (by decide) (by decide) ⟨fun _ _ => rfl, rfl, fun p => by rw [if_neg (by omega)]⟩) (fun r s2 r' t2 q y => ?_)
    obtain ⟨t', m, y1, y2⟩ := y
    have a : s14.1 27 8 = s.1 54 8 := by rw [w.1.2.1 3 8 (by decide) (by decide) (by decide) (by decide), es _ (by decide)]
    have b : t'.1 0 23 = t.1 0 23 := by rw [m.1 0 (by decide), q_nc rfl]
    refine ⟨by rw [q.1, y1, a, b]; exact h.2.1.1.2.1, by rw [q.2, y2, q_eq, q_eq], fun _ => ?_, fun z => absurd z (by rw [q.2, q_eq]; decide)⟩
    rw [q.2, y2]
    exact day_of h hd es (by rw [e]; rfl) w.1 w.2 m
  exact p
theorem days_f {sC sM : Sg} (a1 : Int32) (e10 : sC.1 0 13 = sM.1 0 10) (hc : 0 ≤ (sM.1 0 10).toInt ∧ (sM.1 0 10).toInt ≤ 900) (tb : TapB sC sM) (hP : PlnR 24 sC (sM.1 1)) (hN : NmsR 24 sC (sM.2 2) (sM.1 1)) : RQ (f_X11_days a1 sC) (f_X12_days a1 sM) DyPo := by
  have e0 : (0 : Int32).toInt = 0 := rfl
  have e900 : (900 : Int32).toInt = 900 := rfl
  have e300 : (300 : Int32).toInt = 300 := rfl
  unfold f_X11_days f_X12_days f_X12_begins
  refine rq_bC (wi_p a1 0 (sC.1 0 13) sC) (fun r1 s2 g => ?_)
  obtain ⟨es, g⟩ := g
  subst es
  rw [e10] at g
  have out : RQ (bd (f_X11_refuse 1 s2) (fun r s => some (r, s))) (bd (f_X12_refuse 1 sM) (fun r t => some (r, t))) DyPo := (rq_s ⟨rfl, by rw [q_eq, q_eq], fun z => absurd z (by rw [q_eq]; decide), fun z => absurd z (by rw [q_eq]; decide)⟩ : RQ (some ((-1 : Int32), pI s2 0 15 1)) (some ((-1 : Int32), pI sM 0 2 1)) DyPo)
  rcases g with ⟨z, g1, g2⟩ | ⟨z, g⟩ <;> subst z
  · rw [if_neg i10]
    refine rm_i (fun c => absurd (i_lt c) (by omega)) (fun _ => rm_i (fun c => absurd (i_lt c) (by omega)) (fun _ => rm_i (fun c3 => rq_iC (fun _ => ?_) (fun z => absurd c3 z)) (fun c3 => rq_iC (fun z => absurd z c3) (fun _ => rm_s (rq_iM (fun _ => out) (fun z => absurd rfl z))))))
    have c3 := i_le c3
    unfold f_X7_begin
    refine rc_n (fun s1 e1 => rc_n (fun s3 e3 => rc_b ?_))
    have hn : a1.toInt = (a1.toInt.toNat : Int) := by omega
    have c1 : ∀ c, ¬ c = 7 → s3.1 c = s2.1 c := fun c hc => by rw [e3, pI_o _ _ _ _ _ hc, pI_o _ _ _ _ _ hc, pI_o _ _ _ _ _ hc, e1, pI_o _ _ _ _ _ hc]
    have d1 : s3.2 = s2.2 := by rw [e3, e1]; rfl
    have c71 : s3.1 7 1 = a1 := by
      rw [e3, q_ne rfl, q_ne rfl, q_ne rfl, e1, q_eq, if_neg (fun z => by have := i_lt z; omega)]
    have c72 : s3.1 7 2 = 0 := by rw [e3, q_ne rfl, q_ne rfl, q_eq]
    refine beg_r hn ⟨rfl, by rw [c71]; exact hn, by omega⟩ c72 sM (fun i hi => ?_) (fun s t tk z18 fC kM k2 z17 => ?_) BIG 0 0 _ rfl (Nat.zero_le _) (fun k hk => absurd hk (Nat.not_lt_zero _)) (by rw [q_eq]; exact hn) (fun c y1 _ => pI_o _ _ _ _ _ y1) rfl
    · rw [c1 1 (by decide)]
      exact tb i (by omega)
    · refine rc_s ?_
      unfold f_X1_takeText f_X5_clear_54
      refine rq_iM (fun z => absurd z i10) (fun _ => rq_nM (fun t5 f5 => rc_b (rc_n (fun s4 f4 => rc_s ?_))))
      have kS : ∀ c, 25 ≤ c → c ≤ 39 → s.1 c = s2.1 c ∧ s.2 c = s2.2 c := fun c y1 y2 => by
        have b : ∀ k, LTC.testBit (cC c k) = false := fun k => by
          rw [cC_id c k (by omega) (by omega) (by omega) (by omega) (by omega)]
          exact (show ∀ c, c < 160 → LTC.testBit c = false from by decide +kernel) c (by omega)
        refine ⟨?_, ?_⟩
        · rw [← c1 c (by omega)]
          exact funext fun k => (fC c k (b k)).1
        · rw [← d1]
          exact funext fun k => (fC c k (b k)).2
      have q25 : ∀ c, 25 ≤ c → c ≤ 39 → (pI (pI s4 54 6 1) 9 4 0).1 c = s2.1 c := fun c y1 y2 => by
        rw [pI_o _ _ _ _ _ (by omega), pI_o _ _ _ _ _ (by omega), f4, pI_o _ _ _ _ _ (by omega), pI_o _ _ _ _ _ (by omega), pI_o _ _ _ _ _ (by omega), (kS c y1 y2).1]
      have q28 : (pI (pI s4 54 6 1) 9 4 0).2 28 = s2.2 28 := by
        show s4.2 28 = _
        rw [f4]
        exact (kS 28 (by decide) (by decide)).2
      have mm : ∀ p, t5.1 1 p = if p = 1931 then 0 else sM.1 1 p := fun p => by
        rw [f5, pI_o _ _ _ _ _ (by decide), pI_o _ _ _ _ _ (by decide), pI_1, kM 1 (by decide) (by decide) (by decide)]
        by_cases z : p = 1931
        · rw [if_pos ⟨rfl, z⟩, if_pos z]
        · rw [if_neg (fun y => z y.2), if_neg z]
      have pM : ∀ k, PlP k → t5.1 1 k = sM.1 1 k := fun k hk => by
        rw [mm, if_neg ?_]
        rcases hk with z | z | z | z | ⟨q', z, z'⟩ | ⟨c', z, z'⟩ | ⟨g', z, z'⟩ <;> omega
      have t4 : TkRel a1.toInt.toNat s4 t := by
        rw [f4]
        exact tk_f (L1 := 2 ^ 220) (L2 := 0) (tk_f (L1 := 2 ^ 219) (L2 := 0) (tk_f (L1 := 2 ^ 218) (L2 := 0) tk (fr_x 218 rfl) fr_r (m_and rfl) rfl) (fr_x 219 rfl) fr_r (m_and rfl) rfl) (fr_x 220 rfl) fr_r (m_and rfl) rfl
      have t6 : TkRel a1.toInt.toNat (pI (pI s4 54 6 1) 9 4 0) t := tk_f (L1 := 2 ^ 228) (L2 := 0) (tk_f (L1 := 2 ^ 218) (L2 := 0) t4 (fr_x 218 rfl) fr_r (m_and rfl) rfl) (fr_x 228 rfl) fr_r (m_and rfl) rfl
      have t7 : TkRel a1.toInt.toNat (pI (pI s4 54 6 1) 9 4 0) t5 := by
        rw [f5]
        exact tk_f (L1 := 0) (L2 := 2 ^ 43) (tk_f (L1 := 0) (L2 := 2 ^ 42) (tk_f (L1 := 0) (L2 := 2 ^ 1) t6 fr_r (fr_x 1 rfl) rfl (m_and rfl)) fr_r (fr_x 42 rfl) rfl (m_and rfl)) fr_r (fr_x 43 rfl) rfl (m_and rfl)
      have o22 : t5.1 0 22 = 0 := by rw [f5, pI_1, if_neg (by decide), q_eq]
      have o23 : t5.1 0 23 = 0 := by rw [f5, q_eq]
      have o18 : t5.1 0 18 = 0 := by rw [f5, pI_1, if_neg (by decide), pI_1, if_neg (by decide), pI_o _ _ _ _ _ (by decide), z18]
      have o31 : t5.1 1 1931 = 0 := by rw [mm, if_pos rfl]
      have D : DyR a1.toInt.toNat 0 0 0 (pI (pI s4 54 6 1) 9 4 0) t5 := by
        obtain ⟨N, h4, h5⟩ := hN
        refine ⟨⟨⟨t7, o18⟩, pln_g hP (fun k _ _ => by rw [q25 25 (by decide) (by decide)]) (fun i k i1 i2 _ => by rw [q25 (24 + i) (by omega) (by omega)]) pM, N, ?_, ?_⟩, ⟨⟨?_, ?_, ?_, ?_⟩, ⟨by rw [o31]; decide, by rw [o31, o22, o23]; decide⟩, by rw [o23]; decide, by rw [o22]; decide⟩, ⟨fun d hd => ?_, fun hd => absurd hd (by decide), ?_⟩, fun k hk => absurd hk (Nat.not_lt_zero _)⟩
        · rw [q25 25 (by decide) (by decide)]; exact h4
        · have ecn : cnM (t5.1 1) = cnM (sM.1 1) := by
            funext q
            unfold cnM
            by_cases z : q < 4
            · rw [if_pos z, if_pos z, pM q (plp_0 (Or.inl z))]
            · rw [if_neg z, if_neg z]
          have e2 : t5.2 2 = sM.2 2 := by
            rw [f5]
            exact k2 2 (by decide) (by decide)
          rw [ecn, e2, q25 29 (by decide) (by decide), q25 30 (by decide) (by decide)]
          show NmR ((pI (pI s4 54 6 1) 9 4 0).2 28) _ _ _ _ _
          rw [q28]
          exact h5
        · rw [o31, pI_o _ _ _ _ _ (by decide), pI_1, if_neg (by decide), f4, pI_1, if_neg (by decide), q_eq]
        · rw [o23, pI_o _ _ _ _ _ (by decide), pI_1, if_neg (by decide), f4, q_eq]
        · rw [o22, q_eq]
          decide
        · rw [pI_o _ _ _ _ _ (by decide), q_eq]
        · rw [o22] at hd
          exact absurd hd (by omega)
        · unfold NsR
          rw [o22]
          exact ⟨fun i j _ z => absurd z (by omega), fun k hk => absurd hk (Nat.not_lt_zero _), fun d z => absurd z (by omega), fun k hk => absurd hk (Nat.not_lt_zero _), fun p q _ hq => absurd hq (Nat.not_lt_zero _)⟩
      have pos := tk_pos t7
      exact dloop (kC := kCd) (by omega) f_X12_days_b57 f_X12_days_b38 (fun _ _ => rfl) (fun _ _ _ => rfl) (fun x s t h y => hS_57 s t h y) (fun x s t h y => hN_57 s t h y) hF_57 BIG BIG 0 0 0 1 _ _ rfl i10 pos.2.1 D
  · rw [if_pos rfl]
    by_cases c1 : a1 < 0
    · refine rm_i (fun _ => rm_s (rq_iM (fun _ => out) (fun z => absurd rfl z))) (fun z => absurd c1 z)
    · have c1' := i_nlt c1
      refine rm_i (fun z => absurd z c1) (fun _ => rm_i (fun _ => rm_s (rq_iM (fun _ => out) (fun z => absurd rfl z))) (fun z => ?_))
      have z := i_nlt z
      exact absurd ⟨c1', z⟩ g
/-! frames of what a step does: the reference's acts keep the rows, the plan, the counters -/
def KL (w : Bool) (t0 t : Sg) : Prop := (w = true → t.1 1 4 = t0.1 1 4) ∧ (∀ p, (110 ≤ p ∨ PlP p ∨ p = 11) → t.1 1 p = t0.1 1 p) ∧ (∀ c, ¬ c = 0 → ¬ c = 1 → t.1 c = t0.1 c) ∧ (∀ k, ¬ k = 25 → ¬ k = 26 → t.1 0 k = t0.1 0 k) ∧ t.2 = t0.2
theorem gpl_11 {p : Nat} (h : GPl p) : ¬ 11 = p := by
  rcases h with y | ⟨g, y⟩ | ⟨q, y, y'⟩ | y | y | y <;> omega
theorem plq {p : Nat} (h : PlP p) : 110 ≤ p ∨ PlP p ∨ p = 11 := Or.inr (Or.inl h)
theorem kl_r {w : Bool} {t : Sg} : KL w t t := ⟨fun _ => rfl, fun _ _ => rfl, fun _ _ _ => rfl, fun _ _ _ => rfl, rfl⟩
theorem kl_f {w : Bool} {a b : Sg} (h : KL w a b) : KL false a b := ⟨fun z => (by cases z), h.2⟩
theorem kl_i {w : Bool} {t0 t : Sg} {p : Nat} {v : Int32} (h : KL w t0 t) (g : p < 110 ∧ GPl p ∧ ¬ p = 4) : KL w t0 (pI t 1 p v) := ⟨fun z => by
  rw [pI_1, if_neg (fun y => g.2.2 y.2.symm)]
  exact h.1 z, fun k hk => by
  rw [pI_1, if_neg ?_]
  · exact h.2.1 k hk
  · rintro ⟨-, z⟩
    rcases hk with y | y | y
    · have := g.1
      omega
    · exact plp_n g.2.1 y z
    · exact gpl_11 g.2.1 (y.symm.trans z), fun c h1 h2 => by rw [pI_o _ _ _ _ _ h2]; exact h.2.2.1 c h1 h2, fun k h1 h2 => by rw [q_nc rfl]; exact h.2.2.2.1 k h1 h2, h.2.2.2.2⟩
theorem kl_4 {t0 t : Sg} {v : Int32} (h : KL false t0 t) : KL false t0 (pI t 1 4 v) := ⟨fun z => (by cases z), fun k hk => by
  rw [pI_1, if_neg ?_]
  · exact h.2.1 k hk
  · rintro ⟨-, z⟩
    rcases hk with y | y | y
    · omega
    · exact plp_n (Or.inr (Or.inr (Or.inr (Or.inl ⟨Nat.le_refl 4, by decide⟩)))) y z
    · omega, fun c h1 h2 => by rw [pI_o _ _ _ _ _ h2]; exact h.2.2.1 c h1 h2, fun k h1 h2 => by rw [q_nc rfl]; exact h.2.2.2.1 k h1 h2, h.2.2.2.2⟩
theorem kl_0 {w : Bool} {t0 t : Sg} {k : Nat} {v : Int32} (h : KL w t0 t) (hk : k = 25 ∨ k = 26) : KL w t0 (pI t 0 k v) := ⟨fun z => by rw [q_nc rfl]; exact h.1 z, fun p hp => by rw [q_nc rfl]; exact h.2.1 p hp, fun c h1 h2 => by rw [pI_o _ _ _ _ _ h1]; exact h.2.2.1 c h1 h2, fun j h1 h2 => by
  rw [pI_1, if_neg (fun z => by have := z.2; omega)]
  exact h.2.2.2.1 j h1 h2, h.2.2.2.2⟩
theorem gpl_h {p h : Nat} (hh : h < 8) (z : p = 16 + 3 * h ∨ p = 17 + 3 * h ∨ p = 18 + 3 * h) : p < 110 ∧ GPl p ∧ ¬ p = 4 := ⟨by omega, Or.inl (by omega), by omega⟩
theorem gpl_f {p : Nat} (z : (5 ≤ p ∧ p ≤ 8) ∨ p = 10 ∨ p = 12) : p < 110 ∧ GPl p ∧ ¬ p = 4 := ⟨by omega, Or.inr (Or.inr (Or.inr (by omega))), by omega⟩
theorem gpl_g {p g : Nat} (hg : g < 4) (z : p = 92 + 3 * g) : p < 110 ∧ GPl p ∧ ¬ p = 4 := ⟨by omega, Or.inr (Or.inl ⟨g, z⟩), by omega⟩
def BdK (t : Sg) : Prop := (0 ≤ (t.1 1 0).toInt ∧ (t.1 1 0).toInt ≤ 8) ∧ (0 ≤ (t.1 1 1).toInt ∧ (t.1 1 1).toInt ≤ 8) ∧ (0 ≤ (t.1 1 2).toInt ∧ (t.1 1 2).toInt ≤ 4) ∧ (∀ c : Nat, (c : Int) < (t.1 1 2).toInt → (0 ≤ (t.1 1 (80 + 3 * c)).toInt ∧ (t.1 1 (80 + 3 * c)).toInt < 8) ∧ (0 ≤ (t.1 1 (81 + 3 * c)).toInt ∧ (t.1 1 (81 + 3 * c)).toInt < 8)) ∧ (∀ q : Nat, (q : Int) < (t.1 1 1).toInt → q < 8 ∧ EndsM (t.1 1) q) ∧ t.1 0 24 = -1
theorem bdk_k {t0 t : Sg} (h : BdK t0) {w : Bool} (k : KL w t0 t) : BdK t := by
  have e : ∀ p, p < 4 → t.1 1 p = t0.1 1 p := fun p hp => k.2.1 p (plq (plp_0 (Or.inl hp)))
  obtain ⟨h0, h1, h2, h3, h4, h5⟩ := h
  unfold BdK
  rw [e 0 (by decide), e 1 (by decide), e 2 (by decide), k.2.2.2.1 24 (by decide) (by decide)]
  refine ⟨h0, h1, h2, fun c hc => ?_, fun q hq => ?_, h5⟩
  · rw [k.2.1 _ (plq (plp_c (c := c) (by omega)).1), k.2.1 _ (plq (plp_c (c := c) (by omega)).2.1)]
    exact h3 c hc
  · have w := h4 q hq
    refine ⟨w.1, ?_⟩
    unfold EndsM
    rw [k.2.1 _ (plq (plp_q w.1).1), k.2.1 _ (plq (plp_q w.1).2.1)]
    exact w.2
theorem bdk_of {o : Nat} {s t : Sg} (H : NowG o s t) : BdK t := by
  have b := H.1.1.2.1
  refine ⟨b.1, b.2.1, b.2.2.1, fun c hc => ?_, fun q hq => ⟨(pln_q H.1.1 hq).1, (pln_q H.1.1 hq).2.2.1⟩, H.2.1.2⟩
  have pc := H.1.1.2.2.2.2.2.1 c hc
  have p1 : s.1 35 c = t.1 1 (80 + 3 * c) := pc.1.1
  have p2 : s.1 36 c = t.1 1 (81 + 3 * c) := pc.1.2.1
  have q1 : 0 ≤ (s.1 35 c).toInt ∧ (s.1 35 c).toInt < (t.1 1 0).toInt := pc.2.1
  have q2 : 0 ≤ (s.1 36 c).toInt ∧ (s.1 36 c).toInt < (t.1 1 0).toInt := pc.2.2.1
  have b0 : (t.1 1 0).toInt ≤ 8 := b.1.2
  rw [← p1, ← p2]
  omega
theorem kl_strews {w : Bool} {t0 t : Sg} (K : KL w t0 t) {a : Int32} {h : Nat} (ha : a.toInt = (h : Int)) (hh : h < 8) (g : Int32) : PQ (f_X12_strews a g t) (fun _ t' => KL w t0 t') := pq_w (strews_m ha hh g t) (fun _ t' y => by
  rw [y]
  exact kl_i (kl_i K (gpl_h hh (Or.inl rfl))) (gpl_f (Or.inl (by decide))))
theorem kl_buys {w : Bool} {t0 t : Sg} (K : KL w t0 t) {a c : Int32} {g h : Nat} (ha : a.toInt = (g : Int)) (hg : g < 4) (hc : c.toInt = (h : Int)) (hh : h < 8) (n : Int32) : PQ (f_X12_buys a n c t) (fun _ t' => KL w t0 t') := by
  have x := gx_x ha hg
  have y := hr_x hc hh
  unfold f_X12_buys
  refine pq_c (fun _ => pq_n (fun x2 _ => pq_c (fun _ => pq_n (fun s4 e4 => pq_c (fun _ => pq_n (fun s6 e6 => ?_))))))
  rw [x.1] at e4
  have k4 : KL w t0 s4 := by
    rw [e4]
    exact kl_i K (gpl_g hg rfl)
  have k6 : KL w t0 s6 := by
    rw [e6]
    exact kl_i k4 (gpl_f (Or.inr (Or.inr rfl)))
  refine pq_b (kl_strews k6 hc hh _) (fun _ s8 k8 => pq_b (hr_p c s8) (fun r9 s10 w => ?_))
  obtain ⟨es, er⟩ := w
  rw [es, er]
  refine pq_c (fun _ => pq_n (fun s12 e12 => pq_s ?_))
  rw [y.2.1] at e12
  have k12 : KL w t0 s12 := by
    rw [e12]
    exact kl_i k8 (gpl_h hh (Or.inr (Or.inl rfl)))
  exact kl_i k12 (gpl_f (Or.inl (by decide)))
theorem kl_sweeps {w : Bool} {t0 t : Sg} (K : KL w t0 t) {a : Int32} {h : Nat} (ha : a.toInt = (h : Int)) (hh : h < 8) : PQ (f_X12_sweeps a t) (fun _ t' => KL w t0 t') := by
  have y := hr_x ha hh
  unfold f_X12_sweeps
  refine pq_b (grains_m ha hh t) (fun r1 s2 w => ?_)
  obtain ⟨es, -⟩ := w
  rw [es]
  refine pq_b (hr_p a t) (fun r3 s4 w => ?_)
  obtain ⟨es, er⟩ := w
  rw [es, er]
  refine pq_c (fun _ => pq_b (hr_p a _) (fun r6 s7 w => ?_))
  obtain ⟨es, er⟩ := w
  rw [es, er, y.1]
  refine pq_c (fun _ => pq_n (fun s9 e9 => pq_s ?_))
  rw [y.2.1] at e9
  have k9 : KL w t0 s9 := by
    rw [e9]
    exact kl_i (kl_i K (gpl_h hh (Or.inl rfl))) (gpl_h hh (Or.inr (Or.inl rfl)))
  exact kl_i k9 (gpl_f (Or.inl (by decide)))
theorem kl_rains {w : Bool} {t0 : Sg} (B : BdK t0) (m : Nat) : ∀ (i : Nat) (v1 v2 : Int32) (t : Sg), v2.toInt = (i : Int) → i ≤ 8 → KL w t0 t → PQ (f_X12_rains_b4 m v1 v2 t) (fun _ t' => KL w t0 t') := by
  induction m with
  | zero => intro i v1 v2 t _ _ _ r t' z; cases z
  | succ m ih =>
    intro i v1 v2 t hv hi K
    have e1 : (1 : Int32).toInt = 1 := rfl
    have b0 := (bdk_k B K).1.2
    unfold f_X12_rains_b4
    refine pq_if (fun _ => pq_n (fun s1 e1 => pq_s ?_)) (fun c => ?_)
    · rw [e1]
      exact kl_i (kl_i K (gpl_f (Or.inl (by decide)))) (gpl_f (Or.inr (Or.inl rfl)))
    · have c := i_nle c
      have hh : i < 8 := by omega
      have y := hr_x hv hh
      refine pq_b (hr_p v2 t) (fun r2 s3 w => ?_)
      obtain ⟨es, er⟩ := w
      rw [es, er]
      refine pq_c (fun _ => pq_n (fun x5 _ => pq_c (fun _ => pq_n (fun x7 _ => pq_n (fun s8 e8 => pq_n (fun s9 e9 => ?_))))))
      rw [y.1] at e8
      rw [y.2.1] at e9
      refine ih (i + 1) x7 (v2 + 1) s9 (by rw [i_addx _ _ (by omega)]; omega) (by omega) ?_
      rw [e9, e8]
      exact kl_i (kl_i K (gpl_h hh (Or.inl rfl))) (gpl_h hh (Or.inr (Or.inl rfl)))
theorem kl_snows {w : Bool} {t0 : Sg} (B : BdK t0) (v1 : Int32) (m : Nat) : ∀ (i : Nat) (v2 : Int32) (t : Sg), v2.toInt = (i : Int) → i ≤ 8 → KL w t0 t → PQ (f_X12_snows_b2 m v1 v2 t) (fun _ t' => KL w t0 t') := by
  induction m with
  | zero => intro i v2 t _ _ _ r t' z; cases z
  | succ m ih =>
    intro i v2 t hv hi K
    have e1 : (1 : Int32).toInt = 1 := rfl
    have b0 := (bdk_k B K).1.2
    unfold f_X12_snows_b2
    refine pq_if (fun _ => pq_s K) (fun c => ?_)
    have c := i_nle c
    have hh : i < 8 := by omega
    have y := hr_x hv hh
    have a1 : (v2 + 1).toInt = ((i + 1 : Nat) : Int) := by rw [i_addx _ _ (by omega)]; omega
    refine pq_b (gone_m hv (by omega) t) (fun r1 s2 w => ?_)
    obtain ⟨es, -⟩ := w
    rw [es]
    refine pq_if (fun _ => ?_) (fun _ => ih (i + 1) (v2 + 1) t a1 (by omega) K)
    refine pq_b (hr_p v2 t) (fun r3 s4 w => ?_)
    obtain ⟨es, er⟩ := w
    rw [es, er]
    refine pq_b (hr_p v2 t) (fun r5 s6 w => ?_)
    obtain ⟨es, er⟩ := w
    rw [es, er]
    refine pq_c (fun _ => pq_c (fun _ => pq_n (fun s9 e9 => ?_)))
    rw [y.2.2] at e9
    refine ih (i + 1) (v2 + 1) s9 a1 (by omega) ?_
    rw [e9]
    exact kl_i K (gpl_h hh (Or.inr (Or.inr rfl)))
theorem kl_brings {w : Bool} {t0 t : Sg} (K : KL w t0 t) {a b : Int32} {h j : Nat} (ha : a.toInt = (h : Int)) (hh : h < 8) (hb : b.toInt = (j : Int)) (hj : j < 8) (n : Int32) : PQ (f_X12_brings a b n t) (fun _ t' => KL w t0 t') := by
  have y := hr_x ha hh
  have z := hr_x hb hj
  unfold f_X12_brings
  refine pq_b (hr_p a t) (fun r3 s4 w => ?_)
  obtain ⟨es, er⟩ := w
  rw [es, er]
  refine pq_c (fun _ => pq_n (fun x4 _ => pq_b (hr_p a t) (fun r5 s6 w => ?_)))
  obtain ⟨es, er⟩ := w
  rw [es, er]
  refine pq_c (fun _ => pq_n (fun x8 _ => pq_b (hr_p a t) (fun r9 s10 w => ?_)))
  obtain ⟨es, er⟩ := w
  rw [es, er]
  refine pq_c (fun _ => pq_n (fun s12 e12 => ?_))
  rw [y.1] at e12
  have k12 : KL w t0 s12 := by
    rw [e12]
    exact kl_i K (gpl_h hh (Or.inl rfl))
  refine pq_b (hr_p a s12) (fun r13 s14 w => ?_)
  obtain ⟨es, er⟩ := w
  rw [es, er]
  refine pq_c (fun _ => pq_n (fun s16 e16 => ?_))
  rw [y.2.1] at e16
  have k16 : KL w t0 s16 := by
    rw [e16]
    exact kl_i k12 (gpl_h hh (Or.inr (Or.inl rfl)))
  refine pq_b (hr_p b s16) (fun r17 s18 w => ?_)
  obtain ⟨es, er⟩ := w
  rw [es, er]
  refine pq_c (fun _ => pq_n (fun s20 e20 => ?_))
  rw [z.1] at e20
  have k20 : KL w t0 s20 := by
    rw [e20]
    exact kl_i k16 (gpl_h hj (Or.inl rfl))
  refine pq_b (hr_p b s20) (fun r21 s22 w => ?_)
  obtain ⟨es, er⟩ := w
  rw [es, er]
  refine pq_c (fun _ => pq_n (fun s24 e24 => pq_s ?_))
  rw [z.2.1] at e24
  rw [e24]
  exact kl_i k20 (gpl_h hj (Or.inr (Or.inl rfl)))
theorem kl_157 {t0 t : Sg} (B : BdK t0) (K : KL false t0 t) : PQ (f_X12_nightGoes_b157 BIG 0 (pI (pI t 0 25 0) 0 26 0)) (fun _ t' => KL false t0 t') := by
  have b := bdk_k B K
  have k2 : KL false t0 (pI (pI t 0 25 0) 0 26 0) := kl_0 (kl_0 K (Or.inl rfl)) (Or.inr rfl)
  refine pq_w (ng_157 (M := t.1 1) (t0 := pI (pI t 0 25 0) 0 26 0) (by rw [pI_o _ _ _ _ _ (by decide), pI_o _ _ _ _ _ (by decide)]) b.2.2.2.2.1 (by rw [q_ne rfl, q_ne rfl]; exact b.2.2.2.2.2) b.2.1 BIG 0 0 _ rfl b.2.1.1 ⟨fun q hq => absurd hq (Nat.not_lt_zero _), fun p _ => by rw [q_nc rfl, q_nc rfl], ⟨fun _ _ _ => rfl, fun _ _ _ => rfl, rfl⟩, by rw [q_ne rfl, q_eq]; rfl, by rw [q_eq]; rfl⟩) (fun _ t' w => ?_)
  obtain ⟨t2, ⟨-, w2, ⟨w3, w4, w5⟩, -⟩, y⟩ := w
  have bq := b.2.1
  have k3 : KL false t0 t2 := by
    refine ⟨fun z => (by cases z), fun p hp => ?_, fun c h1 h2 => (w3 c h1 h2).trans (k2.2.2.1 c h1 h2), fun k h1 h2 => (w4 k h1 h2).trans (k2.2.2.2.1 k h1 h2), w5.trans k2.2.2.2.2⟩
    rw [w2 p (fun q hq => ?_)]
    · exact K.2.1 p hp
    · have hq8 : q < 8 := by omega
      rcases hp with z | z | z
      · omega
      · exact ⟨fun u => plp_n (Or.inr (Or.inr (Or.inl ⟨q, hq8, Or.inl rfl⟩))) z u, fun u => plp_n (Or.inr (Or.inr (Or.inl ⟨q, hq8, Or.inr rfl⟩))) z u⟩
      · omega
  rw [y]
  exact kl_i (kl_4 k3) (gpl_f (Or.inr (Or.inl rfl)))
theorem kl_73 {t0 : Sg} (B : BdK t0) (m : Nat) : ∀ (i : Nat) (v : Int32) (t : Sg), v.toInt = (i : Int) → i ≤ 8 → KL false t0 t → PQ (f_X12_nightGoes_b73 m v t) (fun _ t' => KL false t0 t') := by
  induction m with
  | zero => intro i v t _ _ _ r t' z; cases z
  | succ m ih =>
    intro i v t hv hi K
    have e1 : (1 : Int32).toInt = 1 := rfl
    have b0 := (bdk_k B K).1.2
    unfold f_X12_nightGoes_b73
    refine pq_if (fun _ => kl_157 B K) (fun c => ?_)
    have c := i_nle c
    have hh : i < 8 := by omega
    have y := hr_x hv hh
    refine pq_b (hr_p v t) (fun r2 s3 w => ?_)
    obtain ⟨es, er⟩ := w
    rw [es, er]
    refine pq_c (fun _ => pq_c (fun _ => pq_n (fun x19 _ => pq_n (fun s20 e20 => pq_n (fun s21 e21 => ?_)))))
    rw [y.1] at e20
    rw [y.2.2] at e21
    refine ih (i + 1) (v + 1) _ (by rw [i_addx _ _ (by omega)]; omega) (by omega) (kl_i ?_ (gpl_f (Or.inl (by decide))))
    rw [e21, e20]
    exact kl_i (kl_i K (gpl_h hh (Or.inl rfl))) (gpl_h hh (Or.inr (Or.inr rfl)))
theorem kl_b2 {t0 : Sg} (B : BdK t0) (m : Nat) : ∀ (i : Nat) (v : Int32) (t : Sg), v.toInt = (i : Int) → i ≤ 4 → KL false t0 t → PQ (f_X12_nightGoes_b2 m v t) (fun _ t' => KL false t0 t') := by
  induction m with
  | zero => intro i v t _ _ _ r t' z; cases z
  | succ m ih =>
    intro i v t hv hi K
    have e1 : (1 : Int32).toInt = 1 := rfl
    have b := bdk_k B K
    have b2 := b.2.2.1.2
    have a1 : (v + 1).toInt = ((i + 1 : Nat) : Int) := by rw [i_addx _ _ (by omega)]; omega
    unfold f_X12_nightGoes_b2
    refine pq_if (fun _ => kl_73 B BIG 0 0 t rfl (by decide) K) (fun c => ?_)
    have c := i_nle c
    have hi4 : i < 4 := by omega
    have x := cx_x hv hi4
    have hb := b.2.2.2.1 i (by omega)
    refine pq_c (fun _ => pq_b (hr_p _ t) (fun r2 s3 w => ?_))
    obtain ⟨es, er⟩ := w
    rw [es]
    refine pq_c (fun _ => pq_if (fun _ => pq_c (fun _ => pq_c (fun _ => ?_))) (fun _ => ih (i + 1) (v + 1) t a1 (by omega) K))
    exact pq_b (kl_brings K (h := (t.1 1 (80 + 3 * i)).toInt.toNat) (j := (t.1 1 (81 + 3 * i)).toInt.toNat) (by rw [x.1]; omega) (by omega) (by rw [x.2.1]; omega) (by omega) _) (fun _ s29 k => ih (i + 1) (v + 1) s29 a1 (by omega) k)
theorem kl_night {t : Sg} (B : BdK t) : PQ (f_X12_nightGoes t) (fun _ t' => KL false t t') := kl_b2 B BIG 0 0 t rfl (by decide) kl_r
/-! a reader of the class that answers 1 has called no fault: printed by genW.py -/
def Wf (s : Sg) : Prop := s.1 7 8 = 0 ∧ s.1 7 9 = -1
def Wo (r : Int32) (s : Sg) : Prop := r = 0 ∨ Wf s
theorem wo_n {r : Int32} {s : Sg} (h : Wo r s) (c : ¬ r = 0) : Wf s := h.elim (fun e => absurd e c) id
theorem wo_m {r : Int32} {s s' : Sg} (f : Wf s → Wf s') (h : Wo r s) : Wo r s' := h.elim (fun e => Or.inl e) (fun w => Or.inr (f w))
theorem wf_i {s : Sg} {c k : Nat} {v : Int32} (h : Wf s) (e : ¬ 7 = c) : Wf (pI s c k v) := by
  unfold Wf
  rw [pI_o _ _ _ _ _ e]
  exact h
theorem wf_7 {s : Sg} {k : Nat} {v : Int32} (h : Wf s) (e : k < 8) : Wf (pI s 7 k v) := by
  unfold Wf
  rw [pI_1, pI_1, if_neg (fun z => by have := z.2; omega), if_neg (fun z => by have := z.2; omega)]
  exact h
theorem wf_l {s : Sg} {c k : Nat} {v : Int64} (h : Wf s) : Wf (pL s c k v) := h
theorem wf_t {L : Nat} {s s' : Sg} (h : Wf s) (g : Fr cC L s s') (e : L.testBit 188 = false) (e' : L.testBit 189 = false) : Wf s' := ⟨(fr_e g 7 8 188 rfl e).trans h.1, (fr_e g 7 9 189 rfl e').trans h.2⟩
theorem wf_X7_wrong (a : Int32) (s : Sg) : PQ (f_X7_wrong a s) (fun r s' => Wo r s') := by
  unfold f_X7_wrong
  exact pq_if (fun _ => pq_n (fun _ _ => pq_s (Or.inl rfl))) (fun _ => pq_n (fun _ _ => pq_s (Or.inl rfl)))
theorem wf_X6_takeNew (a1 : Int32) (a2 : Int32) (a3 : Int32) {s : Sg} (hJ : Wf s) : PQ (f_X6_takeNew a1 a2 a3 s) (fun r s9 => Wo r s9) := by
  unfold f_X6_takeNew
  refine pq_if (fun c1 => ?_) (fun c1 => ?_)
  · refine pq_b (ft_X7_advance  _) (fun _ s2 g2 => ?_)
    refine pq_if (fun c3 => ?_) (fun c3 => ?_)
    · refine pq_b (ft_X4_addName_52 _ _ _ _) (fun r3 s4 g4 => ?_)
      refine pq_if (fun c5 => ?_) (fun c5 => ?_)
      · refine pq_b (wf_X7_wrong _ _) (fun r5 s6 g6 => ?_)
        refine pq_c (fun _ => ?_)
        exact pq_s g6
      · refine pq_b (ft_X7_advance  _) (fun _ s8 g7 => ?_)
        exact pq_s (Or.inr (wf_t (wf_t (wf_t hJ g2 rfl rfl) g4 rfl rfl) g7 rfl rfl))
    · refine pq_b (wf_X7_wrong _ _) (fun r9 s10 g8 => ?_)
      refine pq_c (fun _ => ?_)
      exact pq_s g8
  · refine pq_b (wf_X7_wrong _ _) (fun r11 s12 g9 => ?_)
    refine pq_c (fun _ => ?_)
    exact pq_s g9
theorem wf_X7_passNumber (a1 : Int32) (a2 : Int32) {s : Sg} (hJ : Wf s) : PQ (f_X7_passNumber a1 a2 s) (fun r s9 => Wo r s9) := by
  unfold f_X7_passNumber
  refine pq_if (fun c10 => ?_) (fun c10 => ?_)
  · refine pq_b (ft_X11_within _ _ _ _) (fun r1 s2 g11 => ?_)
    refine pq_if (fun c12 => ?_) (fun c12 => ?_)
    · refine pq_b (wf_X7_wrong _ _) (fun r3 s4 g13 => ?_)
      refine pq_c (fun _ => ?_)
      exact pq_s g13
    · refine pq_b (ft_X7_advance  _) (fun _ s6 g14 => ?_)
      exact pq_s (Or.inr (wf_t (wf_7 (wf_t hJ g11 rfl rfl) (by decide)) g14 rfl rfl))
  · refine pq_b (wf_X7_wrong _ _) (fun r7 s8 g15 => ?_)
    refine pq_c (fun _ => ?_)
    exact pq_s g15
theorem wf_X6_takeGrains_67 (a1 : Int32) (a3 : Int32) {s : Sg} (hJ : Wf s) : PQ (f_X6_takeGrains_67 a1 a3 s) (fun r s9 => Wo r s9) := by
  unfold f_X6_takeGrains_67
  refine pq_if (fun c16 => ?_) (fun c16 => ?_)
  · refine pq_b (ft_X7_advance  _) (fun _ s2 g17 => ?_)
    refine pq_b (wf_X7_passNumber _ _ (wf_t hJ g17 rfl rfl)) (fun r3 s4 g18 => ?_)
    refine pq_if (fun c19 => ?_) (fun c19 => ?_)
    · exact pq_s (Or.inl rfl)
    · refine pq_c (fun _ => ?_)
      refine pq_n (fun s6 e20 => ?_)
      have js6 : Wf s6 := by rw [e20]; exact (wf_i (wo_n g18 c19) (by decide))
      exact pq_s (Or.inr js6)
  · exact pq_s (Or.inr hJ)
theorem wf_X6_takeGrains_68 (a1 : Int32) (a3 : Int32) {s : Sg} (hJ : Wf s) : PQ (f_X6_takeGrains_68 a1 a3 s) (fun r s9 => Wo r s9) := by
  unfold f_X6_takeGrains_68
  refine pq_if (fun c21 => ?_) (fun c21 => ?_)
  · refine pq_b (ft_X7_advance  _) (fun _ s2 g22 => ?_)
    refine pq_b (wf_X7_passNumber _ _ (wf_t hJ g22 rfl rfl)) (fun r3 s4 g23 => ?_)
    refine pq_if (fun c24 => ?_) (fun c24 => ?_)
    · exact pq_s (Or.inl rfl)
    · refine pq_c (fun _ => ?_)
      refine pq_n (fun s6 e25 => ?_)
      have js6 : Wf s6 := by rw [e25]; exact (wf_i (wo_n g23 c24) (by decide))
      exact pq_s (Or.inr js6)
  · exact pq_s (Or.inr hJ)
theorem wf_X7_pass (a1 : Int32) {s : Sg} (hJ : Wf s) : PQ (f_X7_pass a1 s) (fun r s9 => Wo r s9) := by
  unfold f_X7_pass
  refine pq_if (fun c26 => ?_) (fun c26 => ?_)
  · refine pq_b (ft_X7_advance  _) (fun _ s2 g27 => ?_)
    exact pq_s (Or.inr (wf_t hJ g27 rfl rfl))
  · refine pq_b (wf_X7_wrong _ _) (fun r3 s4 g28 => ?_)
    refine pq_c (fun _ => ?_)
    exact pq_s g28
theorem wf_X6_takeHouse_b64 (v1 : Int32) (t0 : Int32) (s : Sg) (hJ : Wf s) : PQ (f_X6_takeHouse_b64 v1 t0 s) (fun r s9 => Wo r s9) := by
  unfold f_X6_takeHouse_b64
  refine pq_b (wf_X6_takeGrains_67 _ _ hJ) (fun r3 s4 g29 => ?_)
  refine pq_if (fun c30 => ?_) (fun c30 => ?_)
  · exact pq_s (Or.inl rfl)
  · refine pq_b (wf_X6_takeGrains_68 _ _ (wo_n g29 c30)) (fun r5 s6 g31 => ?_)
    refine pq_if (fun c32 => ?_) (fun c32 => ?_)
    · exact pq_s (Or.inl rfl)
    · refine pq_if (fun c33 => ?_) (fun c33 => ?_)
      · refine pq_if (fun c34 => ?_) (fun c34 => ?_)
        · refine pq_n (fun s7 e35 => ?_)
          have js7 : Wf s7 := by rw [e35]; exact (wf_i (wo_n g31 c32) (by decide))
          refine pq_b (ft_X7_advance  _) (fun _ s9 g36 => ?_)
          refine pq_b (wf_X7_pass _ (wf_t js7 g36 rfl rfl)) (fun r10 s11 g37 => ?_)
          refine pq_c (fun _ => ?_)
          exact pq_s g37
        · refine pq_b (wf_X7_wrong _ _) (fun r12 s13 g38 => ?_)
          refine pq_c (fun _ => ?_)
          exact pq_s g38
      · refine pq_b (wf_X7_pass _ (wo_n g31 c32)) (fun r14 s15 g39 => ?_)
        refine pq_c (fun _ => ?_)
        exact pq_s g39
theorem wf_X6_takeHouse_b59 (v1 : Int32) (s : Sg) (hJ : Wf s) : PQ (f_X6_takeHouse_b59 v1 s) (fun r s9 => Wo r s9) := by
  unfold f_X6_takeHouse_b59
  exact wf_X6_takeHouse_b64 _ _ _ hJ
theorem wf_X6_takeHouse  {s : Sg} (hJ : Wf s) : PQ (f_X6_takeHouse  s) (fun r s9 => Wo r s9) := by
  unfold f_X6_takeHouse
  refine pq_b (wf_X6_takeNew _ _ _ hJ) (fun r1 s2 g40 => ?_)
  refine pq_if (fun c41 => ?_) (fun c41 => ?_)
  · exact pq_s (Or.inl rfl)
  · refine pq_if (fun c42 => ?_) (fun c42 => ?_)
    · exact wf_X6_takeHouse_b59 _ _ (wf_i (wo_n g40 c41) (by decide))
    · refine pq_if (fun c43 => ?_) (fun c43 => ?_)
      · exact wf_X6_takeHouse_b59 _ _ (wf_i (wo_n g40 c41) (by decide))
      · exact wf_X6_takeHouse_b64 _ _ _ (wf_i (wo_n g40 c41) (by decide))
theorem wf_X6_takeCounts_b35  (s : Sg) (hJ : Wf s) : PQ (f_X6_takeCounts_b35  s) (fun r s9 => Wo r s9) := by
  unfold f_X6_takeCounts_b35
  refine pq_b (wf_X7_pass _ (wf_i (wf_i hJ (by decide)) (by decide))) (fun r3 s4 g44 => ?_)
  refine pq_if (fun c45 => ?_) (fun c45 => ?_)
  · exact pq_s (Or.inl rfl)
  · refine pq_b (wf_X7_pass _ (wo_n g44 c45)) (fun r5 s6 g46 => ?_)
    refine pq_if (fun c47 => ?_) (fun c47 => ?_)
    · exact pq_s (Or.inl rfl)
    · exact pq_s (Or.inr (wo_n g46 c47))
theorem wf_X6_takeCounts  {s : Sg} (hJ : Wf s) : PQ (f_X6_takeCounts  s) (fun r s9 => Wo r s9) := by
  unfold f_X6_takeCounts
  refine pq_b (ft_X7_advance  _) (fun _ s2 g48 => ?_)
  refine pq_if (fun c49 => ?_) (fun c49 => ?_)
  · refine pq_if (fun c50 => ?_) (fun c50 => ?_)
    · exact wf_X6_takeCounts_b35  _ (wf_t hJ g48 rfl rfl)
    · refine pq_b (wf_X7_wrong _ _) (fun r7 s8 g51 => ?_)
      refine pq_c (fun _ => ?_)
      exact pq_s g51
  · exact wf_X6_takeCounts_b35  _ (wf_t hJ g48 rfl rfl)
theorem wf_X7_findName_52 (a2 : Int32) {s : Sg} (hJ : Wf s) : PQ (f_X7_findName_52 a2 s) (fun r s9 => Wo r s9) := by
  unfold f_X7_findName_52
  refine pq_if (fun c52 => ?_) (fun c52 => ?_)
  · refine pq_b (ft_X4_numberOf_52 _ _ _) (fun r1 s2 g53 => ?_)
    refine pq_if (fun c54 => ?_) (fun c54 => ?_)
    · refine pq_b (wf_X7_wrong _ _) (fun r3 s4 g55 => ?_)
      refine pq_if (fun c56 => ?_) (fun c56 => ?_)
      · exact pq_s (Or.inl rfl)
      · exact pq_s (Or.inr (wo_n g55 c56))
    · exact pq_s (Or.inr (wf_7 (wf_t hJ g53 rfl rfl) (by decide)))
  · refine pq_b (wf_X7_wrong _ _) (fun r5 s6 g57 => ?_)
    refine pq_c (fun _ => ?_)
    exact pq_s g57
theorem wf_X6_takeEnd_58 (a2 : Int32) (a3 : Int32) (a4 : Int32) {s : Sg} (hJ : Wf s) : PQ (f_X6_takeEnd_58 a2 a3 a4 s) (fun r s9 => Wo r s9) := by
  unfold f_X6_takeEnd_58
  refine pq_b (wf_X7_findName_52 _ hJ) (fun r1 s2 g58 => ?_)
  refine pq_if (fun c59 => ?_) (fun c59 => ?_)
  · exact pq_s (Or.inl rfl)
  · refine pq_if (fun c60 => ?_) (fun c60 => ?_)
    · refine pq_b (wf_X7_wrong _ _) (fun r3 s4 g61 => ?_)
      refine pq_c (fun _ => ?_)
      exact pq_s g61
    · refine pq_b (ft_X11_has _ _ _) (fun r5 s6 g62 => ?_)
      refine pq_if (fun c63 => ?_) (fun c63 => ?_)
      · refine pq_c (fun _ => ?_)
        refine pq_n (fun s8 e64 => ?_)
        have js8 : Wf s8 := by rw [e64]; exact (wf_i (wf_t (wo_n g58 c59) g62 rfl rfl) (by decide))
        refine pq_b (ft_X7_advance  _) (fun _ s10 g65 => ?_)
        exact pq_s (Or.inr (wf_t js8 g65 rfl rfl))
      · refine pq_b (wf_X7_wrong _ _) (fun r11 s12 g66 => ?_)
        refine pq_c (fun _ => ?_)
        exact pq_s g66
theorem wf_X6_takeEnd_59 (a2 : Int32) (a3 : Int32) (a4 : Int32) {s : Sg} (hJ : Wf s) : PQ (f_X6_takeEnd_59 a2 a3 a4 s) (fun r s9 => Wo r s9) := by
  unfold f_X6_takeEnd_59
  refine pq_b (wf_X7_findName_52 _ hJ) (fun r1 s2 g67 => ?_)
  refine pq_if (fun c68 => ?_) (fun c68 => ?_)
  · exact pq_s (Or.inl rfl)
  · refine pq_if (fun c69 => ?_) (fun c69 => ?_)
    · refine pq_b (wf_X7_wrong _ _) (fun r3 s4 g70 => ?_)
      refine pq_c (fun _ => ?_)
      exact pq_s g70
    · refine pq_b (ft_X11_has _ _ _) (fun r5 s6 g71 => ?_)
      refine pq_if (fun c72 => ?_) (fun c72 => ?_)
      · refine pq_c (fun _ => ?_)
        refine pq_n (fun s8 e73 => ?_)
        have js8 : Wf s8 := by rw [e73]; exact (wf_i (wf_t (wo_n g67 c68) g71 rfl rfl) (by decide))
        refine pq_b (ft_X7_advance  _) (fun _ s10 g74 => ?_)
        exact pq_s (Or.inr (wf_t js8 g74 rfl rfl))
      · refine pq_b (wf_X7_wrong _ _) (fun r11 s12 g75 => ?_)
        refine pq_c (fun _ => ?_)
        exact pq_s g75
theorem wf_X6_takeQuarrel  {s : Sg} (hJ : Wf s) : PQ (f_X6_takeQuarrel  s) (fun r s9 => Wo r s9) := by
  unfold f_X6_takeQuarrel
  refine pq_b (wf_X6_takeNew _ _ _ hJ) (fun r1 s2 g76 => ?_)
  refine pq_if (fun c77 => ?_) (fun c77 => ?_)
  · exact pq_s (Or.inl rfl)
  · refine pq_b (wf_X7_pass _ (wo_n g76 c77)) (fun r3 s4 g78 => ?_)
    refine pq_if (fun c79 => ?_) (fun c79 => ?_)
    · exact pq_s (Or.inl rfl)
    · refine pq_b (wf_X6_takeEnd_58 _ _ _ (wo_n g78 c79)) (fun r5 s6 g80 => ?_)
      refine pq_if (fun c81 => ?_) (fun c81 => ?_)
      · exact pq_s (Or.inl rfl)
      · refine pq_b (wf_X7_pass _ (wo_n g80 c81)) (fun r7 s8 g82 => ?_)
        refine pq_if (fun c83 => ?_) (fun c83 => ?_)
        · exact pq_s (Or.inl rfl)
        · refine pq_c (fun _ => ?_)
          refine pq_b (wf_X6_takeEnd_59 _ _ _ (wo_n g82 c83)) (fun r10 s11 g84 => ?_)
          refine pq_if (fun c85 => ?_) (fun c85 => ?_)
          · exact pq_s (Or.inl rfl)
          · refine pq_b (wf_X7_pass _ (wo_n g84 c85)) (fun r12 s13 g86 => ?_)
            refine pq_if (fun c87 => ?_) (fun c87 => ?_)
            · exact pq_s (Or.inl rfl)
            · refine pq_b (wf_X7_passNumber _ _ (wo_n g86 c87)) (fun r14 s15 g88 => ?_)
              refine pq_if (fun c89 => ?_) (fun c89 => ?_)
              · exact pq_s (Or.inl rfl)
              · refine pq_n (fun s16 e90 => ?_)
                have js16 : Wf s16 := by rw [e90]; exact (wf_i (wo_n g88 c89) (by decide))
                refine pq_b (ft_X4_joinAt_52 _ _) (fun _ s18 g91 => ?_)
                refine pq_n (fun s19 e92 => ?_)
                have js19 : Wf s19 := by rw [e92]; exact (wf_i (wf_t js16 g91 rfl rfl) (by decide))
                refine pq_b (wf_X7_pass _ js19) (fun r20 s21 g93 => ?_)
                refine pq_c (fun _ => ?_)
                exact pq_s g93
theorem wf_X6_takeEnd_62 (a2 : Int32) (a3 : Int32) (a4 : Int32) {s : Sg} (hJ : Wf s) : PQ (f_X6_takeEnd_62 a2 a3 a4 s) (fun r s9 => Wo r s9) := by
  unfold f_X6_takeEnd_62
  refine pq_b (wf_X7_findName_52 _ hJ) (fun r1 s2 g94 => ?_)
  refine pq_if (fun c95 => ?_) (fun c95 => ?_)
  · exact pq_s (Or.inl rfl)
  · refine pq_if (fun c96 => ?_) (fun c96 => ?_)
    · refine pq_b (wf_X7_wrong _ _) (fun r3 s4 g97 => ?_)
      refine pq_c (fun _ => ?_)
      exact pq_s g97
    · refine pq_b (ft_X11_has _ _ _) (fun r5 s6 g98 => ?_)
      refine pq_if (fun c99 => ?_) (fun c99 => ?_)
      · refine pq_c (fun _ => ?_)
        refine pq_n (fun s8 e100 => ?_)
        have js8 : Wf s8 := by rw [e100]; exact (wf_i (wf_t (wo_n g94 c95) g98 rfl rfl) (by decide))
        refine pq_b (ft_X7_advance  _) (fun _ s10 g101 => ?_)
        exact pq_s (Or.inr (wf_t js8 g101 rfl rfl))
      · refine pq_b (wf_X7_wrong _ _) (fun r11 s12 g102 => ?_)
        refine pq_c (fun _ => ?_)
        exact pq_s g102
theorem wf_X6_takeEnd_63 (a2 : Int32) (a3 : Int32) (a4 : Int32) {s : Sg} (hJ : Wf s) : PQ (f_X6_takeEnd_63 a2 a3 a4 s) (fun r s9 => Wo r s9) := by
  unfold f_X6_takeEnd_63
  refine pq_b (wf_X7_findName_52 _ hJ) (fun r1 s2 g103 => ?_)
  refine pq_if (fun c104 => ?_) (fun c104 => ?_)
  · exact pq_s (Or.inl rfl)
  · refine pq_if (fun c105 => ?_) (fun c105 => ?_)
    · refine pq_b (wf_X7_wrong _ _) (fun r3 s4 g106 => ?_)
      refine pq_c (fun _ => ?_)
      exact pq_s g106
    · refine pq_b (ft_X11_has _ _ _) (fun r5 s6 g107 => ?_)
      refine pq_if (fun c108 => ?_) (fun c108 => ?_)
      · refine pq_c (fun _ => ?_)
        refine pq_n (fun s8 e109 => ?_)
        have js8 : Wf s8 := by rw [e109]; exact (wf_i (wf_t (wo_n g103 c104) g107 rfl rfl) (by decide))
        refine pq_b (ft_X7_advance  _) (fun _ s10 g110 => ?_)
        exact pq_s (Or.inr (wf_t js8 g110 rfl rfl))
      · refine pq_b (wf_X7_wrong _ _) (fun r11 s12 g111 => ?_)
        refine pq_c (fun _ => ?_)
        exact pq_s g111
theorem wf_X6_takeCat  {s : Sg} (hJ : Wf s) : PQ (f_X6_takeCat  s) (fun r s9 => Wo r s9) := by
  unfold f_X6_takeCat
  refine pq_b (wf_X6_takeNew _ _ _ hJ) (fun r1 s2 g112 => ?_)
  refine pq_if (fun c113 => ?_) (fun c113 => ?_)
  · exact pq_s (Or.inl rfl)
  · refine pq_b (wf_X7_pass _ (wo_n g112 c113)) (fun r3 s4 g114 => ?_)
    refine pq_if (fun c115 => ?_) (fun c115 => ?_)
    · exact pq_s (Or.inl rfl)
    · refine pq_b (wf_X6_takeEnd_62 _ _ _ (wo_n g114 c115)) (fun r5 s6 g116 => ?_)
      refine pq_if (fun c117 => ?_) (fun c117 => ?_)
      · exact pq_s (Or.inl rfl)
      · refine pq_b (wf_X7_pass _ (wo_n g116 c117)) (fun r7 s8 g118 => ?_)
        refine pq_if (fun c119 => ?_) (fun c119 => ?_)
        · exact pq_s (Or.inl rfl)
        · refine pq_c (fun _ => ?_)
          refine pq_b (wf_X6_takeEnd_63 _ _ _ (wo_n g118 c119)) (fun r10 s11 g120 => ?_)
          refine pq_if (fun c121 => ?_) (fun c121 => ?_)
          · exact pq_s (Or.inl rfl)
          · refine pq_b (wf_X7_pass _ (wo_n g120 c121)) (fun r12 s13 g122 => ?_)
            refine pq_if (fun c123 => ?_) (fun c123 => ?_)
            · exact pq_s (Or.inl rfl)
            · refine pq_b (wf_X7_passNumber _ _ (wo_n g122 c123)) (fun r14 s15 g124 => ?_)
              refine pq_if (fun c125 => ?_) (fun c125 => ?_)
              · exact pq_s (Or.inl rfl)
              · refine pq_n (fun s16 e126 => ?_)
                have js16 : Wf s16 := by rw [e126]; exact (wf_i (wo_n g124 c125) (by decide))
                refine pq_n (fun s17 e127 => ?_)
                have js17 : Wf s17 := by rw [e127]; exact (wf_i js16 (by decide))
                refine pq_b (wf_X7_pass _ js17) (fun r18 s19 g128 => ?_)
                refine pq_c (fun _ => ?_)
                exact pq_s g128
theorem wf_X6_takeGrocer_b171  (s : Sg) (hJ : Wf s) : PQ (f_X6_takeGrocer_b171  s) (fun r s9 => Wo r s9) := by
  unfold f_X6_takeGrocer_b171
  refine pq_b (wf_X7_pass _ (wf_i hJ (by decide))) (fun r20 s21 g129 => ?_)
  refine pq_c (fun _ => ?_)
  exact pq_s g129
theorem wf_X6_takeGrocer  {s : Sg} (hJ : Wf s) : PQ (f_X6_takeGrocer  s) (fun r s9 => Wo r s9) := by
  unfold f_X6_takeGrocer
  refine pq_b (wf_X6_takeNew _ _ _ hJ) (fun r1 s2 g130 => ?_)
  refine pq_if (fun c131 => ?_) (fun c131 => ?_)
  · exact pq_s (Or.inl rfl)
  · refine pq_b (wf_X7_pass _ (wo_n g130 c131)) (fun r3 s4 g132 => ?_)
    refine pq_if (fun c133 => ?_) (fun c133 => ?_)
    · exact pq_s (Or.inl rfl)
    · refine pq_b (wf_X7_passNumber _ _ (wo_n g132 c133)) (fun r5 s6 g134 => ?_)
      refine pq_if (fun c135 => ?_) (fun c135 => ?_)
      · exact pq_s (Or.inl rfl)
      · refine pq_c (fun _ => ?_)
        refine pq_n (fun s8 e136 => ?_)
        have js8 : Wf s8 := by rw [e136]; exact (wf_i (wo_n g134 c135) (by decide))
        refine pq_b (wf_X7_pass _ js8) (fun r9 s10 g137 => ?_)
        refine pq_if (fun c138 => ?_) (fun c138 => ?_)
        · exact pq_s (Or.inl rfl)
        · refine pq_b (wf_X7_passNumber _ _ (wo_n g137 c138)) (fun r11 s12 g139 => ?_)
          refine pq_if (fun c140 => ?_) (fun c140 => ?_)
          · exact pq_s (Or.inl rfl)
          · refine pq_n (fun s13 e141 => ?_)
            have js13 : Wf s13 := by rw [e141]; exact (wf_i (wo_n g139 c140) (by decide))
            refine pq_n (fun s14 e142 => ?_)
            have js14 : Wf s14 := by rw [e142]; exact (wf_i js13 (by decide))
            refine pq_if (fun c143 => ?_) (fun c143 => ?_)
            · refine pq_b (ft_X7_advance  _) (fun _ s16 g144 => ?_)
              refine pq_b (wf_X7_passNumber _ _ (wf_t js14 g144 rfl rfl)) (fun r17 s18 g145 => ?_)
              refine pq_if (fun c146 => ?_) (fun c146 => ?_)
              · exact pq_s (Or.inl rfl)
              · refine pq_n (fun s19 e147 => ?_)
                have js19 : Wf s19 := by rw [e147]; exact (wf_i (wo_n g145 c146) (by decide))
                exact wf_X6_takeGrocer_b171  _ js19
            · exact wf_X6_takeGrocer_b171  _ js14
theorem wf_X6_takeWashes_b35  (s : Sg) (hJ : Wf s) : PQ (f_X6_takeWashes_b35  s) (fun r s9 => Wo r s9) := by
  unfold f_X6_takeWashes_b35
  refine pq_b (wf_X7_pass _ hJ) (fun r3 s4 g148 => ?_)
  refine pq_if (fun c149 => ?_) (fun c149 => ?_)
  · exact pq_s (Or.inl rfl)
  · refine pq_b (wf_X7_passNumber _ _ (wo_n g148 c149)) (fun r5 s6 g150 => ?_)
    refine pq_if (fun c151 => ?_) (fun c151 => ?_)
    · exact pq_s (Or.inl rfl)
    · refine pq_n (fun s7 e152 => ?_)
      have js7 : Wf s7 := by rw [e152]; exact (wf_i (wf_i (wo_n g150 c151) (by decide)) (by decide))
      refine pq_b (wf_X7_pass _ js7) (fun r8 s9 g153 => ?_)
      refine pq_c (fun _ => ?_)
      exact pq_s g153
theorem wf_X6_takeWashes  {s : Sg} (hJ : Wf s) : PQ (f_X6_takeWashes  s) (fun r s9 => Wo r s9) := by
  unfold f_X6_takeWashes
  refine pq_b (ft_X7_advance  _) (fun _ s2 g154 => ?_)
  refine pq_if (fun c155 => ?_) (fun c155 => ?_)
  · refine pq_if (fun c156 => ?_) (fun c156 => ?_)
    · exact wf_X6_takeWashes_b35  _ (wf_t hJ g154 rfl rfl)
    · refine pq_b (wf_X7_wrong _ _) (fun r10 s11 g157 => ?_)
      refine pq_c (fun _ => ?_)
      exact pq_s g157
  · exact wf_X6_takeWashes_b35  _ (wf_t hJ g154 rfl rfl)
theorem wf_X6_takeText_b21 (n : Nat) : ∀ (v1 : Int32) (v2 : Int32) (s : Sg) (hJ : Wo v1 s), PQ (f_X6_takeText_b21 n v1 v2 s) (fun r s9 => Wo r s9) := by
  induction n with
  | zero => intro v1 v2 s _ r s9 e; cases e
  | succ n ih =>
    intro v1 v2 s hJ
    unfold f_X6_takeText_b21
    refine pq_if (fun c158 => ?_) (fun c158 => ?_)
    · refine pq_c (fun _ => ?_)
      exact pq_s hJ
    · refine pq_if (fun c159 => ?_) (fun c159 => ?_)
      · refine pq_c (fun _ => ?_)
        exact pq_s (Or.inl c159)
      · refine pq_if (fun c160 => ?_) (fun c160 => ?_)
        · refine pq_c (fun _ => ?_)
          exact pq_s (Or.inr (wo_n hJ c159))
        · refine pq_if (fun c161 => ?_) (fun c161 => ?_)
          · refine pq_b (wf_X6_takeHouse  (wo_n hJ c159)) (fun r3 s4 g162 => ?_)
            exact ih _ _ _ g162
          · refine pq_if (fun c163 => ?_) (fun c163 => ?_)
            · refine pq_b (wf_X7_wrong _ _) (fun r5 s6 g164 => ?_)
              exact ih _ _ _ g164
            · refine pq_if (fun c165 => ?_) (fun c165 => ?_)
              · refine pq_b (wf_X7_wrong _ _) (fun r7 s8 g166 => ?_)
                exact ih _ _ _ g166
              · refine pq_if (fun c167 => ?_) (fun c167 => ?_)
                · refine pq_b (wf_X6_takeCounts  (wo_n hJ c159)) (fun r9 s10 g168 => ?_)
                  exact ih _ _ _ g168
                · refine pq_if (fun c169 => ?_) (fun c169 => ?_)
                  · refine pq_b (wf_X6_takeQuarrel  (wo_n hJ c159)) (fun r11 s12 g170 => ?_)
                    exact ih _ _ _ g170
                  · refine pq_if (fun c171 => ?_) (fun c171 => ?_)
                    · refine pq_b (wf_X7_wrong _ _) (fun r13 s14 g172 => ?_)
                      exact ih _ _ _ g172
                    · refine pq_if (fun c173 => ?_) (fun c173 => ?_)
                      · refine pq_b (wf_X7_wrong _ _) (fun r15 s16 g174 => ?_)
                        exact ih _ _ _ g174
                      · refine pq_if (fun c175 => ?_) (fun c175 => ?_)
                        · refine pq_b (wf_X7_wrong _ _) (fun r17 s18 g176 => ?_)
                          exact ih _ _ _ g176
                        · refine pq_if (fun c177 => ?_) (fun c177 => ?_)
                          · refine pq_b (wf_X6_takeCat  (wo_n hJ c159)) (fun r19 s20 g178 => ?_)
                            exact ih _ _ _ g178
                          · refine pq_if (fun c179 => ?_) (fun c179 => ?_)
                            · refine pq_b (wf_X7_wrong _ _) (fun r21 s22 g180 => ?_)
                              exact ih _ _ _ g180
                            · refine pq_if (fun c181 => ?_) (fun c181 => ?_)
                              · refine pq_b (wf_X7_wrong _ _) (fun r23 s24 g182 => ?_)
                                exact ih _ _ _ g182
                              · refine pq_if (fun c183 => ?_) (fun c183 => ?_)
                                · refine pq_b (wf_X7_wrong _ _) (fun r25 s26 g184 => ?_)
                                  exact ih _ _ _ g184
                                · refine pq_if (fun c185 => ?_) (fun c185 => ?_)
                                  · refine pq_b (wf_X6_takeGrocer  (wo_n hJ c159)) (fun r27 s28 g186 => ?_)
                                    exact ih _ _ _ g186
                                  · refine pq_if (fun c187 => ?_) (fun c187 => ?_)
                                    · refine pq_b (wf_X7_wrong _ _) (fun r29 s30 g188 => ?_)
                                      exact ih _ _ _ g188
                                    · refine pq_if (fun c189 => ?_) (fun c189 => ?_)
                                      · refine pq_b (wf_X7_wrong _ _) (fun r31 s32 g190 => ?_)
                                        exact ih _ _ _ g190
                                      · refine pq_if (fun c191 => ?_) (fun c191 => ?_)
                                        · refine pq_b (wf_X7_wrong _ _) (fun r33 s34 g192 => ?_)
                                          exact ih _ _ _ g192
                                        · refine pq_if (fun c193 => ?_) (fun c193 => ?_)
                                          · refine pq_b (wf_X6_takeWashes  (wo_n hJ c159)) (fun r35 s36 g194 => ?_)
                                            exact ih _ _ _ g194
                                          · refine pq_b (wf_X7_wrong _ _) (fun r37 s38 g195 => ?_)
                                            exact ih _ _ _ g195
theorem wf_X6_takeText  {s : Sg} (hJ : Wf s) : PQ (f_X6_takeText  s) (fun r s9 => Wo r s9) := by
  unfold f_X6_takeText
  refine pq_b (ft_X10_clear_51  _) (fun _ s2 g196 => ?_)
  exact wf_X6_takeText_b21 BIG _ _ _ (Or.inr (wf_i (wf_i (wf_t hJ g196 rfl rfl) (by decide)) (by decide)))
theorem wf_X1_takeEnd  {s : Sg} (hJ : Wf s) : PQ (f_X1_takeEnd  s) (fun r s9 => Wo r s9) := by
  unfold f_X1_takeEnd
  refine pq_if (fun c197 => ?_) (fun c197 => ?_)
  · refine pq_b (wf_X7_wrong _ _) (fun r1 s2 g198 => ?_)
    refine pq_c (fun _ => ?_)
    exact pq_s g198
  · refine pq_if (fun c199 => ?_) (fun c199 => ?_)
    · refine pq_c (fun _ => ?_)
      refine pq_n (fun x4 _ => ?_)
      refine pq_c (fun _ => ?_)
      refine pq_n (fun s6 e200 => ?_)
      have js6 : Wf s6 := by rw [e200]; exact (wf_i (wf_i hJ (by decide)) (by decide))
      refine pq_c (fun _ => ?_)
      refine pq_n (fun s8 e201 => ?_)
      have js8 : Wf s8 := by rw [e201]; exact (wf_i js6 (by decide))
      refine pq_c (fun _ => ?_)
      refine pq_n (fun s10 e202 => ?_)
      have js10 : Wf s10 := by rw [e202]; exact (wf_i js8 (by decide))
      refine pq_b (ft_X7_advance  _) (fun _ s12 g203 => ?_)
      refine pq_b (wf_X7_pass _ (wf_t (wf_i js10 (by decide)) g203 rfl rfl)) (fun r13 s14 g204 => ?_)
      refine pq_c (fun _ => ?_)
      exact pq_s g204
    · refine pq_b (wf_X7_wrong _ _) (fun r15 s16 g205 => ?_)
      refine pq_c (fun _ => ?_)
      exact pq_s g205
theorem wf_X1_beginStep_b129 (v1 : Int32) (s : Sg) (hJ : Wf s) : PQ (f_X1_beginStep_b129 v1 s) (fun r s9 => Wo r s9) := by
  unfold f_X1_beginStep_b129
  refine pq_c (fun _ => ?_)
  refine pq_n (fun s8 e206 => ?_)
  have js8 : Wf s8 := by rw [e206]; exact (wf_i hJ (by decide))
  refine pq_n (fun s9 e207 => ?_)
  have js9 : Wf s9 := by rw [e207]; exact (wf_i (wf_i js8 (by decide)) (by decide))
  refine pq_b (ft_X7_advance  _) (fun _ s11 g208 => ?_)
  exact pq_s (Or.inr (wf_t js9 g208 rfl rfl))
theorem wf_X1_beginStep_b99 (v1 : Int32) (v2 : Int32) (s : Sg) (hJ : Wf s) : PQ (f_X1_beginStep_b99 v1 v2 s) (fun r s9 => Wo r s9) := by
  unfold f_X1_beginStep_b99
  refine pq_if (fun c209 => ?_) (fun c209 => ?_)
  · exact wf_X1_beginStep_b129 _ _ hJ
  · refine pq_c (fun _ => ?_)
    refine pq_n (fun s13 e210 => ?_)
    have js13 : Wf s13 := by rw [e210]; exact (wf_i hJ (by decide))
    exact wf_X1_beginStep_b129 _ _ (wf_i js13 (by decide))
theorem wf_X1_beginStep_b26 (v1 : Int32) (t0 : Int32) (s : Sg) (hJ : Wf s) : PQ (f_X1_beginStep_b26 v1 t0 s) (fun r s9 => Wo r s9) := by
  unfold f_X1_beginStep_b26
  refine pq_b (ft_X1_isStepWord _ _) (fun r1 s2 g211 => ?_)
  refine pq_if (fun c212 => ?_) (fun c212 => ?_)
  · refine pq_b (wf_X7_wrong _ _) (fun r3 s4 g213 => ?_)
    refine pq_c (fun _ => ?_)
    exact pq_s g213
  · refine pq_if (fun c214 => ?_) (fun c214 => ?_)
    · refine pq_b (wf_X7_wrong _ _) (fun r5 s6 g215 => ?_)
      refine pq_c (fun _ => ?_)
      exact pq_s g215
    · refine pq_if (fun c216 => ?_) (fun c216 => ?_)
      · refine pq_if (fun c217 => ?_) (fun c217 => ?_)
        · exact wf_X1_beginStep_b99 _ _ _ (wf_t hJ g211 rfl rfl)
        · refine pq_if (fun c218 => ?_) (fun c218 => ?_)
          · exact wf_X1_beginStep_b99 _ _ _ (wf_t hJ g211 rfl rfl)
          · refine pq_b (wf_X7_wrong _ _) (fun r14 s15 g219 => ?_)
            refine pq_c (fun _ => ?_)
            exact pq_s g219
      · refine pq_b (wf_X7_wrong _ _) (fun r16 s17 g220 => ?_)
        refine pq_c (fun _ => ?_)
        exact pq_s g220
theorem wf_X1_beginStep_b21 (v1 : Int32) (s : Sg) (hJ : Wf s) : PQ (f_X1_beginStep_b21 v1 s) (fun r s9 => Wo r s9) := by
  unfold f_X1_beginStep_b21
  exact wf_X1_beginStep_b26 _ _ _ hJ
theorem wf_X1_beginStep  {s : Sg} (hJ : Wf s) : PQ (f_X1_beginStep  s) (fun r s9 => Wo r s9) := by
  unfold f_X1_beginStep
  refine pq_if (fun c221 => ?_) (fun c221 => ?_)
  · exact wf_X1_beginStep_b21 _ _ hJ
  · refine pq_if (fun c222 => ?_) (fun c222 => ?_)
    · exact wf_X1_beginStep_b21 _ _ hJ
    · exact wf_X1_beginStep_b26 _ _ _ hJ
theorem wf_X1_takeNumber (a1 : Int32) (a2 : Int32) (a3 : Int32) {s : Sg} (hJ : Wf s) : PQ (f_X1_takeNumber a1 a2 a3 s) (fun r s9 => Wo r s9) := by
  unfold f_X1_takeNumber
  refine pq_b (wf_X7_passNumber _ _ hJ) (fun r1 s2 g223 => ?_)
  refine pq_if (fun c224 => ?_) (fun c224 => ?_)
  · exact pq_s (Or.inl rfl)
  · refine pq_c (fun _ => ?_)
    refine pq_n (fun s4 e225 => ?_)
    have js4 : Wf s4 := by rw [e225]; exact (wf_i (wo_n g223 c224) (by decide))
    exact pq_s (Or.inr js4)
theorem wf_X7_findName_25 (a2 : Int32) {s : Sg} (hJ : Wf s) : PQ (f_X7_findName_25 a2 s) (fun r s9 => Wo r s9) := by
  unfold f_X7_findName_25
  refine pq_if (fun c226 => ?_) (fun c226 => ?_)
  · refine pq_b (ft_X4_numberOf _ _ _) (fun r1 s2 g227 => ?_)
    refine pq_if (fun c228 => ?_) (fun c228 => ?_)
    · refine pq_b (wf_X7_wrong _ _) (fun r3 s4 g229 => ?_)
      refine pq_if (fun c230 => ?_) (fun c230 => ?_)
      · exact pq_s (Or.inl rfl)
      · exact pq_s (Or.inr (wo_n g229 c230))
    · exact pq_s (Or.inr (wf_7 (wf_t hJ g227 rfl rfl) (by decide)))
  · refine pq_b (wf_X7_wrong _ _) (fun r5 s6 g231 => ?_)
    refine pq_c (fun _ => ?_)
    exact pq_s g231
theorem wf_X1_takeGrocer (a1 : Int32) {s : Sg} (hJ : Wf s) : PQ (f_X1_takeGrocer a1 s) (fun r s9 => Wo r s9) := by
  unfold f_X1_takeGrocer
  refine pq_b (wf_X7_findName_25 _ hJ) (fun r1 s2 g232 => ?_)
  refine pq_if (fun c233 => ?_) (fun c233 => ?_)
  · exact pq_s (Or.inl rfl)
  · refine pq_c (fun _ => ?_)
    refine pq_n (fun s4 e234 => ?_)
    have js4 : Wf s4 := by rw [e234]; exact (wf_i (wo_n g232 c233) (by decide))
    refine pq_b (ft_X7_advance  _) (fun _ s6 g235 => ?_)
    exact pq_s (Or.inr (wf_t js4 g235 rfl rfl))
theorem wf_X1_takeHouse_75 (a2 : Int32) {s : Sg} (hJ : Wf s) : PQ (f_X1_takeHouse_75 a2 s) (fun r s9 => Wo r s9) := by
  unfold f_X1_takeHouse_75
  refine pq_b (wf_X7_findName_25 _ hJ) (fun r1 s2 g236 => ?_)
  refine pq_if (fun c237 => ?_) (fun c237 => ?_)
  · exact pq_s (Or.inl rfl)
  · refine pq_b (ft_X4_isGone _ _) (fun r3 s4 g238 => ?_)
    refine pq_if (fun c239 => ?_) (fun c239 => ?_)
    · refine pq_c (fun _ => ?_)
      refine pq_n (fun s6 e240 => ?_)
      have js6 : Wf s6 := by rw [e240]; exact (wf_i (wf_t (wo_n g236 c237) g238 rfl rfl) (by decide))
      refine pq_b (ft_X7_advance  _) (fun _ s8 g241 => ?_)
      exact pq_s (Or.inr (wf_t js6 g241 rfl rfl))
    · refine pq_b (wf_X7_wrong _ _) (fun r9 s10 g242 => ?_)
      refine pq_c (fun _ => ?_)
      exact pq_s g242
theorem wf_X1_takeHouse_73 (a2 : Int32) {s : Sg} (hJ : Wf s) : PQ (f_X1_takeHouse_73 a2 s) (fun r s9 => Wo r s9) := by
  unfold f_X1_takeHouse_73
  refine pq_b (wf_X7_findName_25 _ hJ) (fun r1 s2 g243 => ?_)
  refine pq_if (fun c244 => ?_) (fun c244 => ?_)
  · exact pq_s (Or.inl rfl)
  · refine pq_b (ft_X4_isGone _ _) (fun r3 s4 g245 => ?_)
    refine pq_if (fun c246 => ?_) (fun c246 => ?_)
    · refine pq_c (fun _ => ?_)
      refine pq_n (fun s6 e247 => ?_)
      have js6 : Wf s6 := by rw [e247]; exact (wf_i (wf_t (wo_n g243 c244) g245 rfl rfl) (by decide))
      refine pq_b (ft_X7_advance  _) (fun _ s8 g248 => ?_)
      exact pq_s (Or.inr (wf_t js6 g248 rfl rfl))
    · refine pq_b (wf_X7_wrong _ _) (fun r9 s10 g249 => ?_)
      refine pq_c (fun _ => ?_)
      exact pq_s g249
theorem wf_X1_takeTest_b40 (v1 : Int32) (s : Sg) (hJ : Wf s) : PQ (f_X1_takeTest_b40 v1 s) (fun r s9 => Wo r s9) := by
  unfold f_X1_takeTest_b40
  refine pq_b (ft_X7_advance  _) (fun _ s4 g250 => ?_)
  refine pq_b (wf_X7_findName_25 _ (wf_t hJ g250 rfl rfl)) (fun r5 s6 g251 => ?_)
  refine pq_if (fun c252 => ?_) (fun c252 => ?_)
  · exact pq_s (Or.inl rfl)
  · refine pq_c (fun _ => ?_)
    refine pq_n (fun s8 e253 => ?_)
    have js8 : Wf s8 := by rw [e253]; exact (wf_i (wo_n g251 c252) (by decide))
    refine pq_b (ft_X7_advance  _) (fun _ s10 g254 => ?_)
    exact pq_s (Or.inr (wf_t js8 g254 rfl rfl))
theorem wf_X1_takeTest_b180 (v1 : Int32) (s : Sg) (hJ : Wf s) : PQ (f_X1_takeTest_b180 v1 s) (fun r s9 => Wo r s9) := by
  unfold f_X1_takeTest_b180
  refine pq_b (ft_X7_advance  _) (fun _ s17 g255 => ?_)
  refine pq_b (wf_X7_passNumber _ _ (wf_t hJ g255 rfl rfl)) (fun r18 s19 g256 => ?_)
  refine pq_c (fun _ => ?_)
  refine pq_n (fun s21 e257 => ?_)
  have js21 : Wo r18 s21 := by rw [e257]; exact (wo_m (fun w => (wf_i w (by decide))) g256)
  refine pq_c (fun _ => ?_)
  exact pq_s js21
theorem wf_X1_takeTest (a1 : Int32) {s : Sg} (hJ : Wf s) : PQ (f_X1_takeTest a1 s) (fun r s9 => Wo r s9) := by
  unfold f_X1_takeTest
  refine pq_c (fun _ => ?_)
  refine pq_n (fun s2 e258 => ?_)
  have js2 : Wf s2 := by rw [e258]; exact (wf_i hJ (by decide))
  refine pq_if (fun c259 => ?_) (fun c259 => ?_)
  · exact wf_X1_takeTest_b40 _ _ js2
  · refine pq_if (fun c260 => ?_) (fun c260 => ?_)
    · exact wf_X1_takeTest_b40 _ _ js2
    · refine pq_b (wf_X7_pass _ js2) (fun r11 s12 g261 => ?_)
      refine pq_if (fun c262 => ?_) (fun c262 => ?_)
      · exact pq_s (Or.inl rfl)
      · refine pq_b (wf_X1_takeHouse_73 _ (wo_n g261 c262)) (fun r13 s14 g263 => ?_)
        refine pq_if (fun c264 => ?_) (fun c264 => ?_)
        · exact pq_s (Or.inl rfl)
        · refine pq_n (fun s15 e265 => ?_)
          have js15 : Wf s15 := by rw [e265]; exact (wf_i (wo_n g263 c264) (by decide))
          refine pq_if (fun c266 => ?_) (fun c266 => ?_)
          · exact wf_X1_takeTest_b180 _ _ js15
          · refine pq_if (fun c267 => ?_) (fun c267 => ?_)
            · exact wf_X1_takeTest_b180 _ _ js15
            · refine pq_if (fun c268 => ?_) (fun c268 => ?_)
              · exact wf_X1_takeTest_b180 _ _ js15
              · refine pq_b (wf_X7_wrong _ _) (fun r22 s23 g269 => ?_)
                refine pq_c (fun _ => ?_)
                exact pq_s g269
theorem wf_X1_takeStep_b249 (v2 : Int32) (s : Sg) (hJ : Wo v2 s) : PQ (f_X1_takeStep_b249 v2 s) (fun r s9 => Wo r s9) := by
  unfold f_X1_takeStep_b249
  refine pq_if (fun c270 => ?_) (fun c270 => ?_)
  · exact pq_s (Or.inl rfl)
  · refine pq_b (wf_X7_pass _ (wo_n hJ c270)) (fun r6 s7 g271 => ?_)
    refine pq_if (fun c272 => ?_) (fun c272 => ?_)
    · exact pq_s (Or.inl rfl)
    · exact pq_s (Or.inr (wo_n g271 c272))
theorem wf_X1_takeStep_b184 (t0 : Int32) (s : Sg) (hJ : Wo t0 s) : PQ (f_X1_takeStep_b184 t0 s) (fun r s9 => Wo r s9) := by
  unfold f_X1_takeStep_b184
  exact wf_X1_takeStep_b249 _ _ hJ
theorem wf_X1_takeStep_b183  (s : Sg) : PQ (f_X1_takeStep_b183  s) (fun r s9 => Wo r s9) := by
  unfold f_X1_takeStep_b183
  exact wf_X1_takeStep_b184 _ _ (Or.inl rfl)
theorem wf_X1_takeStep_b128 (t0 : Int32) (s : Sg) (hJ : Wo t0 s) : PQ (f_X1_takeStep_b128 t0 s) (fun r s9 => Wo r s9) := by
  unfold f_X1_takeStep_b128
  exact wf_X1_takeStep_b249 _ _ hJ
theorem wf_X1_takeStep_b127  (s : Sg) : PQ (f_X1_takeStep_b127  s) (fun r s9 => Wo r s9) := by
  unfold f_X1_takeStep_b127
  exact wf_X1_takeStep_b128 _ _ (Or.inl rfl)
theorem wf_X1_takeStep  {s : Sg} (hJ : Wf s) : PQ (f_X1_takeStep  s) (fun r s9 => Wo r s9) := by
  unfold f_X1_takeStep
  refine pq_b (wf_X1_beginStep  hJ) (fun r1 s2 g273 => ?_)
  refine pq_if (fun c274 => ?_) (fun c274 => ?_)
  · exact pq_s (Or.inl rfl)
  · refine pq_c (fun _ => ?_)
    refine pq_if (fun c275 => ?_) (fun c275 => ?_)
    · refine pq_b (wf_X1_takeNumber _ _ _ (wo_n g273 c274)) (fun r4 s5 g276 => ?_)
      exact wf_X1_takeStep_b249 _ _ g276
    · refine pq_if (fun c277 => ?_) (fun c277 => ?_)
      · exact wf_X1_takeStep_b249 _ _ (Or.inr (wo_n g273 c274))
      · refine pq_if (fun c278 => ?_) (fun c278 => ?_)
        · exact wf_X1_takeStep_b249 _ _ (Or.inr (wo_n g273 c274))
        · refine pq_if (fun c279 => ?_) (fun c279 => ?_)
          · refine pq_b (wf_X1_takeGrocer _ (wo_n g273 c274)) (fun r8 s9 g280 => ?_)
            refine pq_if (fun c281 => ?_) (fun c281 => ?_)
            · exact wf_X1_takeStep_b183  _ 
            · refine pq_b (wf_X1_takeNumber _ _ _ (wo_n g280 c281)) (fun r10 s11 g282 => ?_)
              refine pq_if (fun c283 => ?_) (fun c283 => ?_)
              · exact wf_X1_takeStep_b183  _ 
              · refine pq_b (wf_X7_pass _ (wo_n g282 c283)) (fun r12 s13 g284 => ?_)
                refine pq_if (fun c285 => ?_) (fun c285 => ?_)
                · exact wf_X1_takeStep_b183  _ 
                · refine pq_b (wf_X1_takeHouse_75 _ (wo_n g284 c285)) (fun r14 s15 g286 => ?_)
                  refine pq_if (fun c287 => ?_) (fun c287 => ?_)
                  · exact wf_X1_takeStep_b183  _ 
                  · exact wf_X1_takeStep_b184 _ _ (Or.inr (wo_n g286 c287))
          · refine pq_if (fun c288 => ?_) (fun c288 => ?_)
            · refine pq_b (wf_X1_takeHouse_73 _ (wo_n g273 c274)) (fun r16 s17 g289 => ?_)
              refine pq_if (fun c290 => ?_) (fun c290 => ?_)
              · exact wf_X1_takeStep_b127  _ 
              · refine pq_b (wf_X1_takeNumber _ _ _ (wo_n g289 c290)) (fun r18 s19 g291 => ?_)
                refine pq_if (fun c292 => ?_) (fun c292 => ?_)
                · exact wf_X1_takeStep_b127  _ 
                · exact wf_X1_takeStep_b128 _ _ (Or.inr (wo_n g291 c292))
            · refine pq_if (fun c293 => ?_) (fun c293 => ?_)
              · refine pq_b (wf_X1_takeHouse_73 _ (wo_n g273 c274)) (fun r20 s21 g294 => ?_)
                exact wf_X1_takeStep_b249 _ _ g294
              · refine pq_if (fun c295 => ?_) (fun c295 => ?_)
                · refine pq_b (wf_X1_takeNumber _ _ _ (wo_n g273 c274)) (fun r22 s23 g296 => ?_)
                  exact wf_X1_takeStep_b249 _ _ g296
                · refine pq_if (fun c297 => ?_) (fun c297 => ?_)
                  · exact wf_X1_takeStep_b249 _ _ (Or.inr (wo_n g273 c274))
                  · refine pq_if (fun c298 => ?_) (fun c298 => ?_)
                    · refine pq_b (wf_X1_takeTest _ (wo_n g273 c274)) (fun r24 s25 g299 => ?_)
                      exact wf_X1_takeStep_b249 _ _ g299
                    · refine pq_if (fun c300 => ?_) (fun c300 => ?_)
                      · exact wf_X1_takeStep_b249 _ _ (Or.inr (wo_n g273 c274))
                      · refine pq_if (fun c301 => ?_) (fun c301 => ?_)
                        · exact wf_X1_takeStep_b249 _ _ (Or.inr (wo_n g273 c274))
                        · refine pq_if (fun c302 => ?_) (fun c302 => ?_)
                          · exact wf_X1_takeStep_b249 _ _ (Or.inr (wo_n g273 c274))
                          · refine pq_if (fun c303 => ?_) (fun c303 => ?_)
                            · refine pq_b (wf_X1_takeNumber _ _ _ (wo_n g273 c274)) (fun r26 s27 g304 => ?_)
                              exact wf_X1_takeStep_b249 _ _ g304
                            · exact wf_X1_takeStep_b249 _ _ (Or.inr (wo_n g273 c274))
theorem wf_X1_takeText_b22 (n : Nat) : ∀ (v1 : Int32) (s : Sg) (hJ : Wf s), PQ (f_X1_takeText_b22 n v1 s) (fun r s9 => Wo r s9) := by
  induction n with
  | zero => intro v1 s _ r s9 e; cases e
  | succ n ih =>
    intro v1 s hJ
    unfold f_X1_takeText_b22
    refine pq_if (fun c305 => ?_) (fun c305 => ?_)
    · refine pq_b (wf_X7_wrong _ _) (fun r3 s4 g306 => ?_)
      refine pq_c (fun _ => ?_)
      exact pq_s g306
    · refine pq_if (fun c307 => ?_) (fun c307 => ?_)
      · refine pq_if (fun c308 => ?_) (fun c308 => ?_)
        · exact pq_s (Or.inr hJ)
        · refine pq_b (wf_X7_wrong _ _) (fun r5 s6 g309 => ?_)
          refine pq_if (fun c310 => ?_) (fun c310 => ?_)
          · exact pq_s (Or.inl rfl)
          · exact pq_s (Or.inr (wo_n g309 c310))
      · refine pq_if (fun c311 => ?_) (fun c311 => ?_)
        · refine pq_b (wf_X1_takeEnd  hJ) (fun r7 s8 g312 => ?_)
          refine pq_if (fun c313 => ?_) (fun c313 => ?_)
          · exact pq_s (Or.inl rfl)
          · exact ih _ _ (wo_n g312 c313)
        · refine pq_b (wf_X1_takeStep  hJ) (fun r9 s10 g314 => ?_)
          refine pq_if (fun c315 => ?_) (fun c315 => ?_)
          · exact pq_s (Or.inl rfl)
          · exact ih _ _ (wo_n g314 c315)
theorem wf_X1_takeText  {s : Sg} (hJ : Wf s) : PQ (f_X1_takeText  s) (fun r s9 => Wo r s9) := by
  unfold f_X1_takeText
  refine pq_b (ft_X5_clear_54  _) (fun _ s2 g316 => ?_)
  exact wf_X1_takeText_b22 BIG _ _ (wf_i (wf_i (wf_t hJ g316 rfl rfl) (by decide)) (by decide))
/-! a reader of the reference: no fault's place without a fault: printed by genN.py -/
abbrev MFV : Nat := 412316860416
def Fvz (s : Sg) : Prop := (s.1 0 18 = 0 → s.1 0 17 = -1) ∧ 0 ≤ (s.1 0 18).toInt
theorem mfv_b {L : Nat} (e : L &&& MFV = 0) : L.testBit 37 = false ∧ L.testBit 38 = false := by
  have h : ∀ b, MFV.testBit b = true → L.testBit b = false := fun b hb => by
    have x : (L &&& MFV).testBit b = false := by rw [e]; exact Nat.zero_testBit _
    rw [Nat.testBit_and, hb, Bool.and_true] at x
    exact x
  exact ⟨h 37 (by decide), h 38 (by decide)⟩
theorem fv_t {L : Nat} {s s' : Sg} (h : Fvz s) (g : Fr cdN L s s') (e : L &&& MFV = 0) : Fvz s' := by
  have b := mfv_b e
  exact ⟨fun z => (fr_e g 0 17 37 rfl b.1).trans (h.1 ((fr_e g 0 18 38 rfl b.2).symm.trans z)), by rw [fr_e g 0 18 38 rfl b.2]; exact h.2⟩
theorem fv_i {s : Sg} {c k : Nat} {v : Int32} (h : Fvz s) (m : Nat) (hm : cdN c k = m) (e : MFV.testBit m = false) : Fvz (pI s c k v) := by
  have n : ∀ j x, MFV.testBit x = true → cdN 0 j = x → (pI s c k v).1 0 j = s.1 0 j := fun j x y z => by
    rw [pI_1, if_neg (fun q => ?_)]
    rw [← q.1, ← q.2, z] at hm
    rw [hm, e] at y
    exact absurd y (by decide)
  unfold Fvz
  rw [n 18 38 (by decide) rfl, n 17 37 (by decide) rfl]
  exact h
theorem fv_l {s : Sg} {c k : Nat} {v : Int64} (h : Fvz s) (m : Nat) (_ : cdN c k = m) (_ : MFV.testBit m = false) : Fvz (pL s c k v) := h
theorem fv_X12_fails (a : Int32) {s : Sg} (ha : 0 < a.toInt) (h : Fvz s) : PQ (f_X12_fails a s) (fun _ s9 => Fvz s9) := by
  have w : ∀ (a x : Int32), 0 < a.toInt → Fvz (pI (pI s 0 18 a) 0 17 x) := fun a x y => by
    refine ⟨fun z => ?_, ?_⟩
    · rw [q_ne rfl, q_eq] at z
      rw [z] at y
      exact absurd y (by decide)
    · rw [q_ne rfl, q_eq]
      omega
  unfold f_X12_fails
  refine pq_if (fun _ => pq_if (fun _ => pq_n (fun x e => pq_s ?_)) (fun _ => pq_n (fun x e => pq_s ?_))) (fun _ => pq_s h)
  · rw [e]; exact w 1 _ (by decide)
  · rw [e]; exact w a _ ha
theorem fv_X12_newOne (a1 : Int32) (a2 : Int32) (a3 : Int32) {s : Sg} (hJ : Fvz s) : PQ (f_X12_newOne a1 a2 a3 s) (fun _ s9 => Fvz s9) := by
  unfold f_X12_newOne
  refine pq_c (fun _ => ?_)
  refine pq_if (fun _ => ?_) (fun _ => ?_)
  · refine pq_b ((fv_X12_fails _ (by decide) hJ)) (fun _ s3 gs3 => ?_)
    refine pq_c (fun _ => ?_)
    exact pq_s gs3
  · refine pq_b (ft_X12_ahead  _) (fun _ s5 gs5 => ?_)
    have js5 := fv_t hJ gs5 rfl
    refine pq_b (ft_X12_isName_1001  _) (fun _ s7 gs7 => ?_)
    have js7 := fv_t js5 gs7 rfl
    refine pq_if (fun _ => ?_) (fun _ => ?_)
    · refine pq_b ((fv_X12_fails _ (by decide) js7)) (fun _ s9 gs9 => ?_)
      refine pq_c (fun _ => ?_)
      exact pq_s gs9
    · refine pq_b (ft_X12_findHere _ _ _) (fun _ s11 gs11 => ?_)
      have js11 := fv_t js7 gs11 rfl
      refine pq_if (fun _ => ?_) (fun _ => ?_)
      · refine pq_b (ft_X12_findHere _ _ _) (fun _ s13 gs13 => ?_)
        have js13 := fv_t js11 gs13 rfl
        refine pq_if (fun _ => ?_) (fun _ => ?_)
        · refine pq_b (ft_X12_findHere _ _ _) (fun _ s15 gs15 => ?_)
          have js15 := fv_t js13 gs15 rfl
          refine pq_if (fun _ => ?_) (fun _ => ?_)
          · refine pq_b (ft_X12_findHere _ _ _) (fun _ s17 gs17 => ?_)
            have js17 := fv_t js15 gs17 rfl
            refine pq_if (fun _ => ?_) (fun _ => ?_)
            · refine pq_b (ft_X12_nameHere  _) (fun _ s19 gs19 => ?_)
              have js19 := fv_t js17 gs19 rfl
              refine pq_c (fun _ => ?_)
              refine pq_n (fun s21 es21 => ?_)
              have js21 : Fvz s21 := by rw [es21]; exact (fv_l js19 2 rfl rfl)
              refine pq_b (ft_X12_ahead  _) (fun _ s23 gs23 => ?_)
              have js23 := fv_t js21 gs23 rfl
              exact pq_s js23
            · refine pq_b ((fv_X12_fails _ (by decide) js17)) (fun _ s25 gs25 => ?_)
              refine pq_c (fun _ => ?_)
              exact pq_s gs25
          · refine pq_b ((fv_X12_fails _ (by decide) js15)) (fun _ s27 gs27 => ?_)
            refine pq_c (fun _ => ?_)
            exact pq_s gs27
        · refine pq_b ((fv_X12_fails _ (by decide) js13)) (fun _ s29 gs29 => ?_)
          refine pq_c (fun _ => ?_)
          exact pq_s gs29
      · refine pq_b ((fv_X12_fails _ (by decide) js11)) (fun _ s31 gs31 => ?_)
        refine pq_c (fun _ => ?_)
        exact pq_s gs31
theorem fv_X12_number (a1 : Int32) (a2 : Int32) (a3 : Int32) {s : Sg} (hJ : Fvz s) : PQ (f_X12_number a1 a2 a3 s) (fun _ s9 => Fvz s9) := by
  unfold f_X12_number
  refine pq_if (fun _ => ?_) (fun _ => ?_)
  · refine pq_if (fun _ => ?_) (fun _ => ?_)
    · refine pq_b ((fv_X12_fails _ (by decide) hJ)) (fun _ s2 gs2 => ?_)
      refine pq_c (fun _ => ?_)
      exact pq_s gs2
    · refine pq_if (fun _ => ?_) (fun _ => ?_)
      · refine pq_c (fun _ => ?_)
        refine pq_n (fun s4 es4 => ?_)
        have js4 : Fvz s4 := by rw [es4]; exact (fv_i hJ 1 rfl rfl)
        refine pq_b (ft_X12_ahead  _) (fun _ s6 gs6 => ?_)
        have js6 := fv_t js4 gs6 rfl
        exact pq_s js6
      · refine pq_b ((fv_X12_fails _ (by decide) hJ)) (fun _ s8 gs8 => ?_)
        refine pq_c (fun _ => ?_)
        exact pq_s gs8
  · refine pq_b ((fv_X12_fails _ (by decide) hJ)) (fun _ s10 gs10 => ?_)
    refine pq_c (fun _ => ?_)
    exact pq_s gs10
theorem fv_X12_aHouse_b144  (s : Sg) (hJ : Fvz s) : PQ (f_X12_aHouse_b144  s) (fun _ s9 => Fvz s9) := by
  unfold f_X12_aHouse_b144
  exact pq_s (fv_i hJ 1 rfl rfl)
theorem fv_X12_aHouse_b106 (v1 : Int32) (v3 : Int32) (s : Sg) (hJ : Fvz s) : PQ (f_X12_aHouse_b106 v1 v3 s) (fun _ s9 => Fvz s9) := by
  unfold f_X12_aHouse_b106
  refine pq_b (ft_X12_inWords_1001  _) (fun _ s11 gs11 => ?_)
  have js11 := fv_t hJ gs11 rfl
  refine pq_if (fun _ => ?_) (fun _ => ?_)
  · refine pq_if (fun _ => ?_) (fun _ => ?_)
    · refine pq_n (fun s12 es12 => ?_)
      have js12 : Fvz s12 := by rw [es12]; exact (fv_i js11 1 rfl rfl)
      refine pq_b (ft_X12_ahead  _) (fun _ s14 gs14 => ?_)
      have js14 := fv_t js12 gs14 rfl
      exact fv_X12_aHouse_b144  _ js14
    · refine pq_b ((fv_X12_fails _ (by decide) js11)) (fun _ s16 gs16 => ?_)
      refine pq_c (fun _ => ?_)
      exact pq_s gs16
  · exact fv_X12_aHouse_b144  _ js11
theorem fv_X12_aHouse_b81 (v1 : Int32) (v2 : Int32) (v3 : Int32) (s : Sg) (hJ : Fvz s) : PQ (f_X12_aHouse_b81 v1 v2 v3 s) (fun _ s9 => Fvz s9) := by
  unfold f_X12_aHouse_b81
  refine pq_b (ft_X12_isThere _ _) (fun _ s9 gs9 => ?_)
  have js9 := fv_t hJ gs9 rfl
  refine pq_if (fun _ => ?_) (fun _ => ?_)
  · exact fv_X12_aHouse_b106 _ _ _ js9
  · refine pq_b ((fv_X12_number _ _ _ js9)) (fun _ s18 gs18 => ?_)
    refine pq_if (fun _ => ?_) (fun _ => ?_)
    · exact pq_s gs18
    · exact fv_X12_aHouse_b106 _ _ _ gs18
theorem fv_X12_aHouse_b57 (v1 : Int32) (v2 : Int32) (t0 : Int32) (s : Sg) (hJ : Fvz s) : PQ (f_X12_aHouse_b57 v1 v2 t0 s) (fun _ s9 => Fvz s9) := by
  unfold f_X12_aHouse_b57
  refine pq_b (ft_X12_isThere _ _) (fun _ s7 gs7 => ?_)
  have js7 := fv_t hJ gs7 rfl
  refine pq_if (fun _ => ?_) (fun _ => ?_)
  · exact fv_X12_aHouse_b81 _ _ _ _ js7
  · refine pq_b ((fv_X12_number _ _ _ js7)) (fun _ s20 gs20 => ?_)
    refine pq_if (fun _ => ?_) (fun _ => ?_)
    · exact pq_s gs20
    · exact fv_X12_aHouse_b81 _ _ _ _ gs20
theorem fv_X12_aHouse_b52 (v1 : Int32) (v2 : Int32) (s : Sg) (hJ : Fvz s) : PQ (f_X12_aHouse_b52 v1 v2 s) (fun _ s9 => Fvz s9) := by
  unfold f_X12_aHouse_b52
  exact fv_X12_aHouse_b57 _ _ _ _ hJ
theorem fv_X12_aHouse  {s : Sg} (hJ : Fvz s) : PQ (f_X12_aHouse  s) (fun _ s9 => Fvz s9) := by
  unfold f_X12_aHouse
  refine pq_n (fun x1 _ => ?_)
  refine pq_b ((fv_X12_newOne _ _ _ hJ)) (fun _ s3 gs3 => ?_)
  refine pq_if (fun _ => ?_) (fun _ => ?_)
  · exact pq_s gs3
  · refine pq_b (ft_X12_inWords_1001  _) (fun _ s5 gs5 => ?_)
    have js5 := fv_t gs3 gs5 rfl
    refine pq_if (fun _ => ?_) (fun _ => ?_)
    · exact fv_X12_aHouse_b52 _ _ _ js5
    · refine pq_b (ft_X12_inWords_1001  _) (fun _ s22 gs22 => ?_)
      have js22 := fv_t js5 gs22 rfl
      refine pq_if (fun _ => ?_) (fun _ => ?_)
      · exact fv_X12_aHouse_b52 _ _ _ js22
      · exact fv_X12_aHouse_b57 _ _ _ _ js22
theorem fv_X12_wantSign (a1 : Int32) {s : Sg} (hJ : Fvz s) : PQ (f_X12_wantSign a1 s) (fun _ s9 => Fvz s9) := by
  unfold f_X12_wantSign
  refine pq_b (ft_X12_isSign _ _) (fun _ s2 gs2 => ?_)
  have js2 := fv_t hJ gs2 rfl
  refine pq_if (fun _ => ?_) (fun _ => ?_)
  · refine pq_b ((fv_X12_fails _ (by decide) js2)) (fun _ s4 gs4 => ?_)
    refine pq_c (fun _ => ?_)
    exact pq_s gs4
  · refine pq_b (ft_X12_ahead  _) (fun _ s6 gs6 => ?_)
    have js6 := fv_t js2 gs6 rfl
    exact pq_s js6
theorem fv_X12_wantWord_1001 (a2 : Int32) {s : Sg} (hJ : Fvz s) : PQ (f_X12_wantWord_1001 a2 s) (fun _ s9 => Fvz s9) := by
  unfold f_X12_wantWord_1001
  refine pq_b (ft_X12_inWords_1001  _) (fun _ s2 gs2 => ?_)
  have js2 := fv_t hJ gs2 rfl
  refine pq_if (fun _ => ?_) (fun _ => ?_)
  · refine pq_b (ft_X12_ahead  _) (fun _ s4 gs4 => ?_)
    have js4 := fv_t js2 gs4 rfl
    exact pq_s js4
  · refine pq_b ((fv_X12_fails _ (by decide) js2)) (fun _ s6 gs6 => ?_)
    refine pq_c (fun _ => ?_)
    exact pq_s gs6
theorem fv_X12_oldOne (a1 : Int32) (a2 : Int32) (a3 : Int32) {s : Sg} (hJ : Fvz s) : PQ (f_X12_oldOne a1 a2 a3 s) (fun _ s9 => Fvz s9) := by
  unfold f_X12_oldOne
  refine pq_b (ft_X12_isName_1001  _) (fun _ s2 gs2 => ?_)
  have js2 := fv_t hJ gs2 rfl
  refine pq_if (fun _ => ?_) (fun _ => ?_)
  · refine pq_b ((fv_X12_fails _ (by decide) js2)) (fun _ s4 gs4 => ?_)
    refine pq_c (fun _ => ?_)
    exact pq_s gs4
  · refine pq_b (ft_X12_findHere _ _ _) (fun _ s6 gs6 => ?_)
    have js6 := fv_t js2 gs6 rfl
    refine pq_c (fun _ => ?_)
    refine pq_if (fun _ => ?_) (fun _ => ?_)
    · refine pq_b ((fv_X12_fails _ (by decide) (fv_i js6 1 rfl rfl))) (fun _ s9 gs9 => ?_)
      refine pq_c (fun _ => ?_)
      exact pq_s gs9
    · refine pq_b (ft_X12_ahead  _) (fun _ s11 gs11 => ?_)
      have js11 := fv_t (fv_i js6 1 rfl rfl) gs11 rfl
      exact pq_s js11
theorem fv_X12_twoHouses_b65 (k_3 : Int32 → Int32 → Int32 → Int32 → Sg → Option (Int32 × Sg)) (hk_3 : ∀ (v1 : Int32) (v2 : Int32) (v3 : Int32) (v4 : Int32) (s : Sg), Fvz s → PQ (k_3 v1 v2 v3 v4 s) (fun _ s9 => Fvz s9)) (v1 : Int32) (v2 : Int32) (v3 : Int32) (v4 : Int32) (s : Sg) (hJ : Fvz s) : PQ (f_X12_twoHouses_b65 k_3 v1 v2 v3 v4 s) (fun _ s9 => Fvz s9) := by
  unfold f_X12_twoHouses_b65
  refine pq_b ((fv_X12_oldOne _ _ _ hJ)) (fun _ s4 gs4 => ?_)
  refine pq_if (fun _ => ?_) (fun _ => ?_)
  · exact pq_s gs4
  · refine pq_if (fun _ => ?_) (fun _ => ?_)
    · refine pq_b ((fv_X12_wantWord_1001 _ gs4)) (fun _ s6 gs6 => ?_)
      refine pq_if (fun _ => ?_) (fun _ => ?_)
      · exact pq_s gs6
      · exact hk_3 _ _ _ _ _ gs6
    · exact hk_3 _ _ _ _ _ gs4
theorem fv_X12_twoHouses_b42 (k_3 : Int32 → Int32 → Int32 → Int32 → Sg → Option (Int32 × Sg)) (hk_3 : ∀ (v1 : Int32) (v2 : Int32) (v3 : Int32) (v4 : Int32) (s : Sg), Fvz s → PQ (k_3 v1 v2 v3 v4 s) (fun _ s9 => Fvz s9)) (v1 : Int32) (v2 : Int32) (v3 : Int32) (v4 : Int32) (v5 : Int32) (s : Sg) (hJ : Fvz s) : PQ (f_X12_twoHouses_b42 k_3 v1 v2 v3 v4 v5 s) (fun _ s9 => Fvz s9) := by
  unfold f_X12_twoHouses_b42
  refine pq_if (fun _ => ?_) (fun _ => ?_)
  · refine pq_c (fun _ => ?_)
    refine pq_if (fun _ => ?_) (fun _ => ?_)
    · refine pq_b ((fv_X12_fails _ (by decide) hJ)) (fun _ s9 gs9 => ?_)
      refine pq_c (fun _ => ?_)
      exact pq_s gs9
    · exact fv_X12_twoHouses_b65 _ hk_3 _ _ _ _ _ hJ
  · exact fv_X12_twoHouses_b65 _ hk_3 _ _ _ _ _ hJ
theorem fv_X12_twoHouses_b3 (n : Nat) : ∀ (v1 : Int32) (v2 : Int32) (v3 : Int32) (v4 : Int32) (s : Sg), Fvz s → PQ (f_X12_twoHouses_b3 n v1 v2 v3 v4 s) (fun _ s9 => Fvz s9) := by
  induction n with
  | zero => intro v1 v2 v3 v4 s _ r s9 e; cases e
  | succ n ih =>
    intro v1 v2 v3 v4 s hJ
    unfold f_X12_twoHouses_b3
    refine pq_if (fun _ => ?_) (fun _ => ?_)
    · exact pq_s hJ
    · refine pq_b (ft_X12_houseHere  _) (fun _ s2 gs2 => ?_)
      have js2 := fv_t hJ gs2 rfl
      refine pq_if (fun _ => ?_) (fun _ => ?_)
      · exact fv_X12_twoHouses_b65 _ ih _ _ _ _ _ js2
      · refine pq_if (fun _ => ?_) (fun _ => ?_)
        · exact fv_X12_twoHouses_b42 _ ih _ _ _ _ _ _ js2
        · refine pq_if (fun _ => ?_) (fun _ => ?_)
          · refine pq_b ((fv_X12_fails _ (by decide) js2)) (fun _ s11 gs11 => ?_)
            refine pq_c (fun _ => ?_)
            exact pq_s gs11
          · exact fv_X12_twoHouses_b42 _ ih _ _ _ _ _ _ js2
theorem fv_X12_twoHouses (a1 : Int32) (a2 : Int32) (a3 : Int32) {s : Sg} (hJ : Fvz s) : PQ (f_X12_twoHouses a1 a2 a3 s) (fun _ s9 => Fvz s9) := by
  unfold f_X12_twoHouses
  exact fv_X12_twoHouses_b3 BIG _ _ _ _ _ hJ
theorem fv_X12_aQuarrel  {s : Sg} (hJ : Fvz s) : PQ (f_X12_aQuarrel  s) (fun _ s9 => Fvz s9) := by
  unfold f_X12_aQuarrel
  refine pq_n (fun x1 _ => ?_)
  refine pq_b ((fv_X12_newOne _ _ _ hJ)) (fun _ s3 gs3 => ?_)
  refine pq_if (fun _ => ?_) (fun _ => ?_)
  · exact pq_s gs3
  · refine pq_b ((fv_X12_wantWord_1001 _ gs3)) (fun _ s5 gs5 => ?_)
    refine pq_if (fun _ => ?_) (fun _ => ?_)
    · exact pq_s gs5
    · refine pq_b ((fv_X12_twoHouses _ _ _ gs5)) (fun _ s7 gs7 => ?_)
      refine pq_if (fun _ => ?_) (fun _ => ?_)
      · exact pq_s gs7
      · refine pq_b ((fv_X12_wantWord_1001 _ gs7)) (fun _ s9 gs9 => ?_)
        refine pq_if (fun _ => ?_) (fun _ => ?_)
        · exact pq_s gs9
        · refine pq_b ((fv_X12_number _ _ _ gs9)) (fun _ s11 gs11 => ?_)
          refine pq_if (fun _ => ?_) (fun _ => ?_)
          · exact pq_s gs11
          · refine pq_n (fun s12 es12 => ?_)
            have js12 : Fvz s12 := by rw [es12]; exact (fv_i gs11 1 rfl rfl)
            exact pq_s js12
theorem fv_X12_aCat  {s : Sg} (hJ : Fvz s) : PQ (f_X12_aCat  s) (fun _ s9 => Fvz s9) := by
  unfold f_X12_aCat
  refine pq_n (fun x1 _ => ?_)
  refine pq_b ((fv_X12_newOne _ _ _ hJ)) (fun _ s3 gs3 => ?_)
  refine pq_if (fun _ => ?_) (fun _ => ?_)
  · exact pq_s gs3
  · refine pq_b ((fv_X12_wantWord_1001 _ gs3)) (fun _ s5 gs5 => ?_)
    refine pq_if (fun _ => ?_) (fun _ => ?_)
    · exact pq_s gs5
    · refine pq_b ((fv_X12_twoHouses _ _ _ gs5)) (fun _ s7 gs7 => ?_)
      refine pq_if (fun _ => ?_) (fun _ => ?_)
      · exact pq_s gs7
      · refine pq_b ((fv_X12_wantWord_1001 _ gs7)) (fun _ s9 gs9 => ?_)
        refine pq_if (fun _ => ?_) (fun _ => ?_)
        · exact pq_s gs9
        · refine pq_b ((fv_X12_number _ _ _ gs9)) (fun _ s11 gs11 => ?_)
          refine pq_if (fun _ => ?_) (fun _ => ?_)
          · exact pq_s gs11
          · refine pq_n (fun s12 es12 => ?_)
            have js12 : Fvz s12 := by rw [es12]; exact (fv_i gs11 1 rfl rfl)
            exact pq_s js12
theorem fv_X12_aGrocer_b101  (s : Sg) (hJ : Fvz s) : PQ (f_X12_aGrocer_b101  s) (fun _ s9 => Fvz s9) := by
  unfold f_X12_aGrocer_b101
  exact pq_s (fv_i hJ 1 rfl rfl)
theorem fv_X12_aGrocer  {s : Sg} (hJ : Fvz s) : PQ (f_X12_aGrocer  s) (fun _ s9 => Fvz s9) := by
  unfold f_X12_aGrocer
  refine pq_n (fun x1 _ => ?_)
  refine pq_b ((fv_X12_newOne _ _ _ hJ)) (fun _ s3 gs3 => ?_)
  refine pq_if (fun _ => ?_) (fun _ => ?_)
  · exact pq_s gs3
  · refine pq_b ((fv_X12_wantWord_1001 _ gs3)) (fun _ s5 gs5 => ?_)
    refine pq_if (fun _ => ?_) (fun _ => ?_)
    · exact pq_s gs5
    · refine pq_b ((fv_X12_number _ _ _ gs5)) (fun _ s7 gs7 => ?_)
      refine pq_if (fun _ => ?_) (fun _ => ?_)
      · exact pq_s gs7
      · refine pq_b ((fv_X12_wantWord_1001 _ gs7)) (fun _ s9 gs9 => ?_)
        refine pq_if (fun _ => ?_) (fun _ => ?_)
        · exact pq_s gs9
        · refine pq_b ((fv_X12_number _ _ _ gs9)) (fun _ s11 gs11 => ?_)
          refine pq_if (fun _ => ?_) (fun _ => ?_)
          · exact pq_s gs11
          · refine pq_b (ft_X12_isThere _ _) (fun _ s13 gs13 => ?_)
            have js13 := fv_t gs11 gs13 rfl
            refine pq_if (fun _ => ?_) (fun _ => ?_)
            · exact fv_X12_aGrocer_b101  _ js13
            · refine pq_b ((fv_X12_number _ _ _ js13)) (fun _ s15 gs15 => ?_)
              refine pq_if (fun _ => ?_) (fun _ => ?_)
              · exact pq_s gs15
              · exact fv_X12_aGrocer_b101  _ gs15
theorem fv_X12_once (a1 : Int32) {s : Sg} (hJ : Fvz s) : PQ (f_X12_once a1 s) (fun _ s9 => Fvz s9) := by
  unfold f_X12_once
  refine pq_b (ft_X12_ahead  _) (fun _ s2 gs2 => ?_)
  have js2 := fv_t hJ gs2 rfl
  refine pq_b (ft_X12_inWords_1001  _) (fun _ s4 gs4 => ?_)
  have js4 := fv_t js2 gs4 rfl
  refine pq_if (fun _ => ?_) (fun _ => ?_)
  · refine pq_if (fun _ => ?_) (fun _ => ?_)
    · refine pq_b ((fv_X12_fails _ (by decide) js4)) (fun _ s6 gs6 => ?_)
      refine pq_c (fun _ => ?_)
      exact pq_s gs6
    · refine pq_n (fun s7 es7 => ?_)
      have js7 : Fvz s7 := by rw [es7]; exact (fv_i js4 40 rfl rfl)
      refine pq_b (ft_X12_ahead  _) (fun _ s9 gs9 => ?_)
      have js9 := fv_t js7 gs9 rfl
      refine pq_if (fun _ => ?_) (fun _ => ?_)
      · refine pq_b ((fv_X12_number _ _ _ js9)) (fun _ s11 gs11 => ?_)
        refine pq_c (fun _ => ?_)
        exact pq_s gs11
      · exact pq_s (fv_i js9 1 rfl rfl)
  · refine pq_b ((fv_X12_fails _ (by decide) js4)) (fun _ s13 gs13 => ?_)
    refine pq_c (fun _ => ?_)
    exact pq_s gs13
theorem fv_X12_streetPart_b102 (v1 : Int32) (s : Sg) (hJ : Fvz s) : PQ (f_X12_streetPart_b102 v1 s) (fun _ s9 => Fvz s9) := by
  unfold f_X12_streetPart_b102
  refine pq_if (fun _ => ?_) (fun _ => ?_)
  · exact pq_s hJ
  · refine pq_b ((fv_X12_wantSign _ hJ)) (fun _ s6 gs6 => ?_)
    refine pq_if (fun _ => ?_) (fun _ => ?_)
    · exact pq_s gs6
    · exact pq_s gs6
theorem fv_X12_streetPart  {s : Sg} (hJ : Fvz s) : PQ (f_X12_streetPart  s) (fun _ s9 => Fvz s9) := by
  unfold f_X12_streetPart
  refine pq_b (ft_X12_inWords_1001  _) (fun _ s2 gs2 => ?_)
  have js2 := fv_t hJ gs2 rfl
  refine pq_if (fun _ => ?_) (fun _ => ?_)
  · refine pq_b ((fv_X12_aHouse  js2)) (fun _ s4 gs4 => ?_)
    exact fv_X12_streetPart_b102 _ _ gs4
  · refine pq_if (fun _ => ?_) (fun _ => ?_)
    · refine pq_b ((fv_X12_aQuarrel  js2)) (fun _ s8 gs8 => ?_)
      exact fv_X12_streetPart_b102 _ _ gs8
    · refine pq_if (fun _ => ?_) (fun _ => ?_)
      · refine pq_b ((fv_X12_aCat  js2)) (fun _ s10 gs10 => ?_)
        exact fv_X12_streetPart_b102 _ _ gs10
      · refine pq_if (fun _ => ?_) (fun _ => ?_)
        · refine pq_b ((fv_X12_aGrocer  js2)) (fun _ s12 gs12 => ?_)
          exact fv_X12_streetPart_b102 _ _ gs12
        · refine pq_if (fun _ => ?_) (fun _ => ?_)
          · refine pq_b ((fv_X12_once _ js2)) (fun _ s14 gs14 => ?_)
            exact fv_X12_streetPart_b102 _ _ gs14
          · refine pq_if (fun _ => ?_) (fun _ => ?_)
            · refine pq_b ((fv_X12_once _ js2)) (fun _ s16 gs16 => ?_)
              exact fv_X12_streetPart_b102 _ _ gs16
            · refine pq_b ((fv_X12_fails _ (by decide) js2)) (fun _ s18 gs18 => ?_)
              refine pq_c (fun _ => ?_)
              exact pq_s gs18
theorem fv_X12_stepTo_b24 (v1 : Int32) (t0 : Int32) (s : Sg) (hJ : Fvz s) : PQ (f_X12_stepTo_b24 v1 t0 s) (fun _ s9 => Fvz s9) := by
  unfold f_X12_stepTo_b24
  refine pq_if (fun _ => ?_) (fun _ => ?_)
  · refine pq_b ((fv_X12_oldOne _ _ _ hJ)) (fun _ s4 gs4 => ?_)
    refine pq_c (fun _ => ?_)
    exact pq_s gs4
  · refine pq_b (ft_X12_isGone _ _) (fun _ s6 gs6 => ?_)
    have js6 := fv_t hJ gs6 rfl
    refine pq_if (fun _ => ?_) (fun _ => ?_)
    · refine pq_b ((fv_X12_oldOne _ _ _ js6)) (fun _ s8 gs8 => ?_)
      refine pq_c (fun _ => ?_)
      exact pq_s gs8
    · refine pq_b ((fv_X12_fails _ (by decide) js6)) (fun _ s10 gs10 => ?_)
      refine pq_c (fun _ => ?_)
      exact pq_s gs10
theorem fv_X12_stepTo (a1 : Int32) {s : Sg} (hJ : Fvz s) : PQ (f_X12_stepTo a1 s) (fun _ s9 => Fvz s9) := by
  unfold f_X12_stepTo
  refine pq_b (ft_X12_isName_1001  _) (fun _ s2 gs2 => ?_)
  have js2 := fv_t hJ gs2 rfl
  refine pq_if (fun _ => ?_) (fun _ => ?_)
  · exact fv_X12_stepTo_b24 _ _ _ js2
  · refine pq_b (ft_X12_findHere _ _ _) (fun _ s12 gs12 => ?_)
    have js12 := fv_t js2 gs12 rfl
    exact fv_X12_stepTo_b24 _ _ _ js12
theorem fv_X12_test_b101 (v1 : Int32) (s : Sg) (hJ : Fvz s) : PQ (f_X12_test_b101 v1 s) (fun _ s9 => Fvz s9) := by
  unfold f_X12_test_b101
  refine pq_c (fun _ => ?_)
  refine pq_n (fun s18 es18 => ?_)
  have js18 : Fvz s18 := by rw [es18]; exact (fv_i hJ 1 rfl rfl)
  refine pq_b (ft_X12_ahead  _) (fun _ s20 gs20 => ?_)
  have js20 := fv_t js18 gs20 rfl
  refine pq_b ((fv_X12_number _ _ _ js20)) (fun _ s22 gs22 => ?_)
  refine pq_c (fun _ => ?_)
  exact pq_s gs22
theorem fv_X12_test (a1 : Int32) {s : Sg} (hJ : Fvz s) : PQ (f_X12_test a1 s) (fun _ s9 => Fvz s9) := by
  unfold f_X12_test
  refine pq_b (ft_X12_inWords_1001  _) (fun _ s2 gs2 => ?_)
  have js2 := fv_t hJ gs2 rfl
  refine pq_if (fun _ => ?_) (fun _ => ?_)
  · refine pq_c (fun _ => ?_)
    refine pq_n (fun s4 es4 => ?_)
    have js4 : Fvz s4 := by rw [es4]; exact (fv_i js2 1 rfl rfl)
    refine pq_b (ft_X12_ahead  _) (fun _ s6 gs6 => ?_)
    have js6 := fv_t js4 gs6 rfl
    refine pq_if (fun _ => ?_) (fun _ => ?_)
    · refine pq_b ((fv_X12_stepTo _ js6)) (fun _ s8 gs8 => ?_)
      refine pq_if (fun _ => ?_) (fun _ => ?_)
      · exact pq_s gs8
      · refine pq_b (ft_X12_isSign _ _) (fun _ s10 gs10 => ?_)
        have js10 := fv_t gs8 gs10 rfl
        refine pq_if (fun _ => ?_) (fun _ => ?_)
        · refine pq_b (ft_X12_isSign _ _) (fun _ s12 gs12 => ?_)
          have js12 := fv_t js10 gs12 rfl
          refine pq_if (fun _ => ?_) (fun _ => ?_)
          · refine pq_b (ft_X12_isSign _ _) (fun _ s14 gs14 => ?_)
            have js14 := fv_t js12 gs14 rfl
            refine pq_if (fun _ => ?_) (fun _ => ?_)
            · refine pq_b ((fv_X12_fails _ (by decide) js14)) (fun _ s16 gs16 => ?_)
              refine pq_c (fun _ => ?_)
              exact pq_s gs16
            · exact fv_X12_test_b101 _ _ js14
          · exact fv_X12_test_b101 _ _ js12
        · exact fv_X12_test_b101 _ _ js10
    · refine pq_b ((fv_X12_oldOne _ _ _ js6)) (fun _ s24 gs24 => ?_)
      refine pq_c (fun _ => ?_)
      exact pq_s gs24
  · refine pq_b ((fv_X12_fails _ (by decide) js2)) (fun _ s26 gs26 => ?_)
    refine pq_c (fun _ => ?_)
    exact pq_s gs26
theorem fv_X12_dayOrder (a1 : Int32) (a2 : Int32) {s : Sg} (hJ : Fvz s) : PQ (f_X12_dayOrder a1 a2 s) (fun _ s9 => Fvz s9) := by
  unfold f_X12_dayOrder
  refine pq_if (fun _ => ?_) (fun _ => ?_)
  · refine pq_b ((fv_X12_number _ _ _ hJ)) (fun _ s2 gs2 => ?_)
    refine pq_c (fun _ => ?_)
    exact pq_s gs2
  · refine pq_if (fun _ => ?_) (fun _ => ?_)
    · exact pq_s hJ
    · refine pq_if (fun _ => ?_) (fun _ => ?_)
      · exact pq_s hJ
      · refine pq_if (fun _ => ?_) (fun _ => ?_)
        · exact pq_s hJ
        · refine pq_if (fun _ => ?_) (fun _ => ?_)
          · exact pq_s hJ
          · refine pq_if (fun _ => ?_) (fun _ => ?_)
            · exact pq_s hJ
            · refine pq_if (fun _ => ?_) (fun _ => ?_)
              · exact pq_s hJ
              · refine pq_if (fun _ => ?_) (fun _ => ?_)
                · exact pq_s hJ
                · refine pq_if (fun _ => ?_) (fun _ => ?_)
                  · exact pq_s hJ
                  · refine pq_if (fun _ => ?_) (fun _ => ?_)
                    · exact pq_s hJ
                    · refine pq_if (fun _ => ?_) (fun _ => ?_)
                      · exact pq_s hJ
                      · refine pq_if (fun _ => ?_) (fun _ => ?_)
                        · exact pq_s hJ
                        · refine pq_if (fun _ => ?_) (fun _ => ?_)
                          · exact pq_s hJ
                          · refine pq_if (fun _ => ?_) (fun _ => ?_)
                            · exact pq_s hJ
                            · refine pq_if (fun _ => ?_) (fun _ => ?_)
                              · exact pq_s hJ
                              · refine pq_if (fun _ => ?_) (fun _ => ?_)
                                · refine pq_b ((fv_X12_stepTo _ hJ)) (fun _ s4 gs4 => ?_)
                                  refine pq_if (fun _ => ?_) (fun _ => ?_)
                                  · exact pq_s gs4
                                  · refine pq_b ((fv_X12_number _ _ _ gs4)) (fun _ s6 gs6 => ?_)
                                    refine pq_if (fun _ => ?_) (fun _ => ?_)
                                    · exact pq_s gs6
                                    · exact pq_s gs6
                                · refine pq_if (fun _ => ?_) (fun _ => ?_)
                                  · refine pq_b ((fv_X12_oldOne _ _ _ hJ)) (fun _ s8 gs8 => ?_)
                                    refine pq_if (fun _ => ?_) (fun _ => ?_)
                                    · exact pq_s gs8
                                    · refine pq_b ((fv_X12_number _ _ _ gs8)) (fun _ s10 gs10 => ?_)
                                      refine pq_if (fun _ => ?_) (fun _ => ?_)
                                      · exact pq_s gs10
                                      · refine pq_b ((fv_X12_wantWord_1001 _ gs10)) (fun _ s12 gs12 => ?_)
                                        refine pq_if (fun _ => ?_) (fun _ => ?_)
                                        · exact pq_s gs12
                                        · refine pq_b ((fv_X12_stepTo _ gs12)) (fun _ s14 gs14 => ?_)
                                          refine pq_if (fun _ => ?_) (fun _ => ?_)
                                          · exact pq_s gs14
                                          · exact pq_s gs14
                                  · refine pq_if (fun _ => ?_) (fun _ => ?_)
                                    · refine pq_b ((fv_X12_stepTo _ hJ)) (fun _ s16 gs16 => ?_)
                                      refine pq_c (fun _ => ?_)
                                      exact pq_s gs16
                                    · refine pq_if (fun _ => ?_) (fun _ => ?_)
                                      · refine pq_b ((fv_X12_number _ _ _ hJ)) (fun _ s18 gs18 => ?_)
                                        refine pq_c (fun _ => ?_)
                                        exact pq_s gs18
                                      · refine pq_if (fun _ => ?_) (fun _ => ?_)
                                        · exact pq_s hJ
                                        · refine pq_if (fun _ => ?_) (fun _ => ?_)
                                          · refine pq_b ((fv_X12_test _ hJ)) (fun _ s20 gs20 => ?_)
                                            refine pq_c (fun _ => ?_)
                                            exact pq_s gs20
                                          · refine pq_if (fun _ => ?_) (fun _ => ?_)
                                            · refine pq_b ((fv_X12_number _ _ _ hJ)) (fun _ s22 gs22 => ?_)
                                              refine pq_c (fun _ => ?_)
                                              exact pq_s gs22
                                            · exact pq_s hJ
theorem fv_X12_dayStep_b227 (v1 : Int32) (v2 : Int32) (v3 : Int32) (s : Sg) (hJ : Fvz s) : PQ (f_X12_dayStep_b227 v1 v2 v3 s) (fun _ s9 => Fvz s9) := by
  unfold f_X12_dayStep_b227
  refine pq_if (fun _ => ?_) (fun _ => ?_)
  · refine pq_c (fun _ => ?_)
    refine pq_c (fun _ => ?_)
    refine pq_n (fun s14 es14 => ?_)
    have js14 : Fvz s14 := by rw [es14]; exact (fv_i (fv_i hJ 42 rfl rfl) 1 rfl rfl)
    refine pq_c (fun _ => ?_)
    refine pq_c (fun _ => ?_)
    refine pq_n (fun s17 es17 => ?_)
    have js17 : Fvz s17 := by rw [es17]; exact (fv_i js14 1 rfl rfl)
    refine pq_b ((fv_X12_wantSign _ js17)) (fun _ s19 gs19 => ?_)
    refine pq_c (fun _ => ?_)
    exact pq_s gs19
  · refine pq_b ((fv_X12_wantSign _ hJ)) (fun _ s21 gs21 => ?_)
    refine pq_c (fun _ => ?_)
    exact pq_s gs21
theorem fv_X12_dayStep_b152 (n : Nat) : ∀ (v1 : Int32) (v2 : Int32) (v3 : Int32) (v4 : Int32) (v5 : Int32) (s : Sg), Fvz s → PQ (f_X12_dayStep_b152 n v1 v2 v3 v4 v5 s) (fun _ s9 => Fvz s9) := by
  induction n with
  | zero => intro v1 v2 v3 v4 v5 s _ r s9 e; cases e
  | succ n ih =>
    intro v1 v2 v3 v4 v5 s hJ
    unfold f_X12_dayStep_b152
    refine pq_if (fun _ => ?_) (fun _ => ?_)
    · refine pq_b (ft_X12_ahead  _) (fun _ s9 gs9 => ?_)
      have js9 := fv_t (fv_i hJ 1 rfl rfl) gs9 rfl
      refine pq_b ((fv_X12_dayOrder _ _ js9)) (fun _ s11 gs11 => ?_)
      refine pq_if (fun _ => ?_) (fun _ => ?_)
      · exact pq_s gs11
      · refine pq_if (fun _ => ?_) (fun _ => ?_)
        · exact fv_X12_dayStep_b227 _ _ _ _ gs11
        · refine pq_c (fun _ => ?_)
          refine pq_n (fun s23 es23 => ?_)
          have js23 : Fvz s23 := by rw [es23]; exact (fv_i gs11 8 rfl rfl)
          exact fv_X12_dayStep_b227 _ _ _ _ (fv_i js23 42 rfl rfl)
    · refine pq_c (fun _ => ?_)
      refine pq_n (fun s25 es25 => ?_)
      have js25 : Fvz s25 := by rw [es25]; exact (fv_i hJ 1 rfl rfl)
      exact ih _ _ _ _ _ _ js25
theorem fv_X12_dayStep_b122 (v1 : Int32) (v2 : Int32) (v3 : Int32) (v4 : Int32) (s : Sg) (hJ : Fvz s) : PQ (f_X12_dayStep_b122 v1 v2 v3 v4 s) (fun _ s9 => Fvz s9) := by
  unfold f_X12_dayStep_b122
  refine pq_if (fun _ => ?_) (fun _ => ?_)
  · refine pq_c (fun _ => ?_)
    refine pq_n (fun s7 es7 => ?_)
    have js7 : Fvz s7 := by rw [es7]; exact (fv_i (fv_i hJ 43 rfl rfl) 1 rfl rfl)
    exact fv_X12_dayStep_b152 BIG _ _ _ _ _ _ js7
  · refine pq_c (fun _ => ?_)
    refine pq_n (fun s27 es27 => ?_)
    have js27 : Fvz s27 := by rw [es27]; exact (fv_i (fv_i hJ 43 rfl rfl) 1 rfl rfl)
    exact fv_X12_dayStep_b152 BIG _ _ _ _ _ _ js27
theorem fv_X12_dayStep_b102 (v1 : Int32) (v2 : Int32) (v3 : Int32) (v4 : Int32) (s : Sg) (hJ : Fvz s) : PQ (f_X12_dayStep_b102 v1 v2 v3 v4 s) (fun _ s9 => Fvz s9) := by
  unfold f_X12_dayStep_b102
  refine pq_if (fun _ => ?_) (fun _ => ?_)
  · exact fv_X12_dayStep_b122 _ _ _ _ _ hJ
  · refine pq_if (fun _ => ?_) (fun _ => ?_)
    · refine pq_b ((fv_X12_fails _ (by decide) hJ)) (fun _ s29 gs29 => ?_)
      refine pq_c (fun _ => ?_)
      exact pq_s gs29
    · exact fv_X12_dayStep_b122 _ _ _ _ _ hJ
theorem fv_X12_dayStep_b80 (v1 : Int32) (v2 : Int32) (v3 : Int32) (v4 : Int32) (s : Sg) (hJ : Fvz s) : PQ (f_X12_dayStep_b80 v1 v2 v3 v4 s) (fun _ s9 => Fvz s9) := by
  unfold f_X12_dayStep_b80
  refine pq_if (fun _ => ?_) (fun _ => ?_)
  · exact fv_X12_dayStep_b102 _ _ _ _ _ hJ
  · refine pq_if (fun _ => ?_) (fun _ => ?_)
    · refine pq_b ((fv_X12_fails _ (by decide) hJ)) (fun _ s31 gs31 => ?_)
      refine pq_c (fun _ => ?_)
      exact pq_s gs31
    · exact fv_X12_dayStep_b102 _ _ _ _ _ hJ
theorem fv_X12_dayStep_b61 (v1 : Int32) (v2 : Int32) (v3 : Int32) (v4 : Int32) (s : Sg) (hJ : Fvz s) : PQ (f_X12_dayStep_b61 v1 v2 v3 v4 s) (fun _ s9 => Fvz s9) := by
  unfold f_X12_dayStep_b61
  refine pq_if (fun _ => ?_) (fun _ => ?_)
  · refine pq_if (fun _ => ?_) (fun _ => ?_)
    · refine pq_b ((fv_X12_fails _ (by decide) hJ)) (fun _ s5 gs5 => ?_)
      refine pq_c (fun _ => ?_)
      exact pq_s gs5
    · exact fv_X12_dayStep_b80 _ _ _ _ _ hJ
  · exact fv_X12_dayStep_b80 _ _ _ _ _ hJ
theorem fv_X12_dayStep_b42 (v1 : Int32) (v2 : Int32) (v3 : Int32) (t0 : Int32) (s : Sg) (hJ : Fvz s) : PQ (f_X12_dayStep_b42 v1 v2 v3 t0 s) (fun _ s9 => Fvz s9) := by
  unfold f_X12_dayStep_b42
  refine pq_if (fun _ => ?_) (fun _ => ?_)
  · exact fv_X12_dayStep_b61 _ _ _ _ _ hJ
  · refine pq_if (fun _ => ?_) (fun _ => ?_)
    · refine pq_b ((fv_X12_fails _ (by decide) hJ)) (fun _ s33 gs33 => ?_)
      refine pq_c (fun _ => ?_)
      exact pq_s gs33
    · refine pq_if (fun _ => ?_) (fun _ => ?_)
      · refine pq_b ((fv_X12_fails _ (by decide) hJ)) (fun _ s35 gs35 => ?_)
        refine pq_c (fun _ => ?_)
        exact pq_s gs35
      · exact fv_X12_dayStep_b61 _ _ _ _ _ hJ
theorem fv_X12_dayStep_b37 (v1 : Int32) (v2 : Int32) (v3 : Int32) (s : Sg) (hJ : Fvz s) : PQ (f_X12_dayStep_b37 v1 v2 v3 s) (fun _ s9 => Fvz s9) := by
  unfold f_X12_dayStep_b37
  exact fv_X12_dayStep_b42 _ _ _ _ _ hJ
theorem fv_X12_dayStep  {s : Sg} (hJ : Fvz s) : PQ (f_X12_dayStep  s) (fun _ s9 => Fvz s9) := by
  unfold f_X12_dayStep
  refine pq_b (ft_X12_inWords_1001  _) (fun _ s2 gs2 => ?_)
  have js2 := fv_t hJ gs2 rfl
  refine pq_n (fun x3 _ => ?_)
  refine pq_if (fun _ => ?_) (fun _ => ?_)
  · exact fv_X12_dayStep_b37 _ _ _ _ js2
  · refine pq_if (fun _ => ?_) (fun _ => ?_)
    · exact fv_X12_dayStep_b37 _ _ _ _ js2
    · exact fv_X12_dayStep_b42 _ _ _ _ _ js2
