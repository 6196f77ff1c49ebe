/-! days: a step is begun -/
theorem beg_d {n : Nat} {dd : Int} {x : Nat} {s t s' t' : Sg} (h : DyR n 0 0 x s t) (tk : TkRel n s' t') (hdd : dd = 0 ∨ dd = 1) (hd3 : (s.1 9 4).toInt + dd ≤ 3) (h30 : (t.1 0 23).toInt < 30) (c25 : ∀ c, 25 ≤ c → c ≤ 39 → s'.1 c = s.1 c) (k28 : s'.2 28 = s.2 28) (cR : ∀ c, 72 ≤ c → c ≤ 77 → ∀ k, k < x → s'.1 c k = s.1 c k) (c54 : s'.1 54 7 = s.1 54 7 + 1 ∧ s'.1 54 8 = s.1 54 8 + 1 ∧ s'.1 54 6 = s.1 54 6) (c9 : (s'.1 9 4).toInt = (s.1 9 4).toInt + dd) (c23 : ∀ d : Nat, (d : Int) < (s.1 9 4).toInt → s'.1 23 d = s.1 23 d) (c23' : dd = 1 → s'.1 23 (s.1 9 4).toInt.toNat = s.1 54 7) (m2 : t'.2 2 = t.2 2) (m8 : t'.1 8 = t.1 8) (m0 : t'.1 0 18 = t.1 0 18 ∧ t'.1 0 22 = t.1 0 22 ∧ t'.1 0 23 = t.1 0 23 + 1) (m31 : t'.1 1 1931 = t.1 1 1931 + 1) (mM : ∀ p, ¬ p = 1931 → ¬ (2030 + 6 * x ≤ p ∧ p < 2036 + 6 * x) → t'.1 1 p = t.1 1 p) : DyR n dd 1 x s' t' := by
  obtain ⟨⟨⟨h1, h2⟩, h3, N, h4, h5⟩, ⟨⟨p1, p2, p3, p4⟩, ⟨p5, p6⟩, p7, p8⟩, ⟨h7, h9⟩, h8⟩ := h
  have e1 : (1 : Int32).toInt = 1 := rfl
  have eX : (t.1 1 1931 + 1).toInt = (t.1 1 1931).toInt + 1 := i_addx _ _ (by omega)
  have eS : (t.1 0 23 + 1).toInt = (t.1 0 23).toInt + 1 := i_addx _ _ (by omega)
  have pM : ∀ k, PlP k → t'.1 1 k = t.1 1 k := fun k hk => mM k (by
    rcases hk with z | z | z | z | ⟨q', z, z'⟩ | ⟨c', z, z'⟩ | ⟨g', z, z'⟩ <;> omega) (by
    rcases hk with z | z | z | z | ⟨q', z, z'⟩ | ⟨c', z, z'⟩ | ⟨g', z, z'⟩ <;> omega)
  refine ⟨⟨⟨tk, m0.1.trans h2⟩, pln_g h3 (fun k _ _ => by rw [c25 25 (by decide) (by decide)]) (fun i k i1 i2 _ => by rw [c25 (24 + i) (by omega) (by omega)]) pM, N, ?_, ?_⟩, ⟨⟨?_, ?_, ?_, ?_⟩, ⟨?_, ?_⟩, ?_, ?_⟩, ⟨fun d hd => ?_, fun hd => ?_, ns_c h9.2 (fun k hk => ⟨mM _ (by omega) (by omega), mM _ (by omega) (by omega)⟩) m8 m0.2.1⟩, fun k hk => ⟨⟨?_, ?_⟩, fun w1 w2 => ?_⟩⟩
  · rw [c25 25 (by decide) (by decide)]; exact h4
  · have ecn : cnM (t'.1 1) = cnM (t.1 1) := by
      funext q
      unfold cnM
      by_cases z : q < 4
      · rw [if_pos z, if_pos z, pM q (plp_0 (Or.inl z))]
      · rw [if_neg z, if_neg z]
    rw [ecn, m2, c25 29 (by decide) (by decide), c25 30 (by decide) (by decide)]
    show NmR (s'.2 28) _ _ _ _ _
    rw [k28]
    exact h5
  · rw [c54.1, m31, p1]
  · rw [c54.2.1, m0.2.2, p2]
  · rw [c9, m0.2.1]; omega
  · rw [c54.2.2]; exact p4
  · rw [m31]; omega
  · rw [m31, m0.2.1, m0.2.2]; omega
  · rw [m0.2.2]; omega
  · rw [m0.2.1]; omega
  · rw [m0.2.1] at hd
    rw [c23 d (by omega), m8]
    exact h7 d hd
  · rw [m0.2.1, show (t.1 0 22).toInt.toNat = (s.1 9 4).toInt.toNat by omega, c23' hd, p1]
    omega
  · have w := (h8 k hk).1.1
    unfold RwR at w ⊢
    rw [cR 72 (by decide) (by decide) k hk, cR 73 (by decide) (by decide) k hk, cR 74 (by decide) (by decide) k hk, cR 75 (by decide) (by decide) k hk, cR 76 (by decide) (by decide) k hk, mM (2030 + 6 * k) (by omega) (by omega), mM (2030 + 6 * k + 1) (by omega) (by omega), mM (2030 + 6 * k + 2) (by omega) (by omega), mM (2030 + 6 * k + 3) (by omega) (by omega), mM (2030 + 6 * k + 5) (by omega) (by omega)]
    exact w
  · have w := (h8 k hk).1.2
    unfold VdR at w ⊢
    rw [mM (2030 + 6 * k) (by omega) (by omega), mM (2030 + 6 * k + 1) (by omega) (by omega), mM (2030 + 6 * k + 2) (by omega) (by omega), mM (2030 + 6 * k + 3) (by omega) (by omega), pM 0 (plp_0 (by omega)), pM 1 (plp_0 (by omega)), pM 3 (plp_0 (by omega)), pM 9 (plp_0 (by omega))]
    exact w
  · rw [cR 77 (by decide) (by decide) k hk, mM (2030 + 6 * k + 4) (by omega) (by omega)]
    rw [cR 72 (by decide) (by decide) k hk] at w1
    rw [m0.2.1, m8] at w2
    exact (h8 k hk).2 w1 w2
/-- the five places behind a row's kind are cleared -/
def ClZ (x : Nat) (t t' : Sg) : Prop := (∀ c, ¬ c = 1 → t'.1 c = t.1 c) ∧ t'.2 = t.2 ∧ ∀ p, ¬ (2030 + 6 * x < p ∧ p ≤ 2035 + 6 * x) → t'.1 1 p = t.1 1 p
theorem clz_s {x : Nat} {t t' : Sg} (h : ClZ x t t') (j : Nat) (h1 : 1 ≤ j) (h2 : j ≤ 5) (v : Int32) : ClZ x t (pI t' 1 (2030 + 6 * x + j) v) := ⟨fun c hc => (pI_o _ _ _ _ _ hc).trans (h.1 c hc), h.2.1, fun p hp => by
  rw [pI_1, if_neg (fun z => by have := z.2; omega)]
  exact h.2.2 p hp⟩
theorem lp_d {α : Type} {oC : Option (α × Sg)} {R : α → Sg → Int32 → Sg → Prop} {x : Nat} {t0 : Sg} (v1 v2 v3 v4 : Int32) (hx : x < 60) (hb : v3.toInt = 2030 + 6 * (x : Int)) (k : ∀ t', ClZ x t0 t' → RQ oC (bd (f_X12_ahead (pI t' 1 1931 ((t'.1 1 1931) + 1))) (fun _ s9 => bd (f_X12_dayOrder v1 v3 s9) (fun r10 s11 => if r10 = 0 then some (0, s11) else if v4 = 0 then f_X12_dayStep_b227 v1 v2 v3 s11 else ck (inr (s11.1 0 22) 3) (nmx (pI s11 8 ((s11.1 0 22).toNatClampNeg) v2) (fun s23 => f_X12_dayStep_b227 v1 v2 v3 (pI s23 0 22 ((s23.1 0 22) + 1))))))) R) : ∀ (m : Nat) (j : Nat) (v5 : Int32) (t : Sg), v5.toInt = (j : Int) → 1 ≤ j → j ≤ 6 → ClZ x t0 t → RQ oC (f_X12_dayStep_b152 m v1 v2 v3 v4 v5 t) R
  | 0 => fun j v5 t _ _ _ _ => rq_0
  | m + 1 => fun j v5 t hv h1 h2 hz => by
      unfold f_X12_dayStep_b152
      have c6 : (6 : Int32).toInt = 6 := rfl
      refine rq_iM (fun _ => k t hz) (fun c => ?_)
      have c' : ¬ 6 ≤ v5.toInt := fun z => c (Int32.le_iff_toInt_le.mpr (by omega))
      refine rq_cM (fun _ => rq_nM (fun t2 e2 => ?_))
      have ep : (v3 + v5).toNatClampNeg = 2030 + 6 * x + j := row_p hb hx v5 hv (by omega)
      rw [ep] at e2
      rw [e2]
      have e1 : (1 : Int32).toInt = 1 := rfl
      exact lp_d v1 v2 v3 v4 hx hb k m (j + 1) (v5 + 1) _ (by rw [i_addx _ _ (by omega)]; omega) (by omega) (by omega) (clz_s hz j h1 (by omega) 0)
/-- the end of a step: the row stands, the sign is passed -/
def kMd (v1 v2 v3 v4 : Int32) : Int32 → Sg → Option (Int32 × Sg) := fun r10 s11 => if r10 = 0 then some (0, s11) else if v4 = 0 then f_X12_dayStep_b227 v1 v2 v3 s11 else ck (inr (s11.1 0 22) 3) (nmx (pI s11 8 ((s11.1 0 22).toNatClampNeg) v2) (fun s23 => f_X12_dayStep_b227 v1 v2 v3 (pI s23 0 22 ((s23.1 0 22) + 1))))
theorem kMd_0 (v1 v2 v3 v4 : Int32) : K0 (kMd v1 v2 v3 v4) := fun t => if_pos rfl
def StpT (n x : Nat) (s0 : Sg) (s t : Sg) : Prop := DyR n 0 0 (x + 1) s t ∧ (s0.1 7 2).toInt ≤ (s.1 7 4).toInt
theorem fin_s {n x : Nat} {s t s0 : Sg} {v1 v2 v3 : Int32} (h : DyR n 0 0 (x + 1) s t) (h26 : ¬ v1 = 26) (hp : (s0.1 7 2).toInt ≤ (s.1 7 4).toInt) : RQ (bd (f_X7_pass 59 s) (fun r s => if r = 0 then some ((0 : Int32), s) else some (1, s))) (f_X12_dayStep_b227 v1 v2 v3 t) (Og (StpT n x s0)) := by
  unfold f_X12_dayStep_b227
  refine rq_iM (fun z => absurd z h26) (fun _ => rq_kM (rq_idM (rq_b2 (pass_s h.1.1.1 h.1.1.2 59 (Or.inl rfl)) (fun r s' r' t' g => ?_))))
  rcases g with ⟨z, z', w⟩ | ⟨z, z', w⟩ <;> subst z <;> subst z'
  · refine rq_iC (fun z => absurd z i10) (fun _ => rq_s (Or.inl ⟨rfl, rfl, (dy_st w h).1, ?_⟩))
    have := tk_pos h.1.1.1
    have := w.2.2.2
    omega
  · exact rq_iC (fun _ => rq_s (Or.inr ⟨rfl, rfl, w⟩)) (fun z => absurd rfl z)
theorem b249_1 (s : Sg) : f_X1_takeStep_b249 1 s = bd (f_X7_pass 59 s) (fun r s => if r = 0 then some ((0 : Int32), s) else some (1, s)) := by
  unfold f_X1_takeStep_b249
  exact if_neg i10
theorem fin_0 {n x : Nat} {s t s0 : Sg} {v1 v2 v3 : Int32} (D : DyR n 0 1 x s t) (w : RwR 51 2030 s (t.1 1) x ∧ VdR 2030 (t.1 1) x) (nb : ¬ (s.1 72 x = 124 ∨ s.1 72 x = 128 ∨ s.1 72 x = 129)) (h26 : ¬ v1 = 26) (hp : (s0.1 7 2).toInt ≤ (s.1 7 4).toInt) : RQ (f_X1_takeStep_b249 1 s) (kMd v1 v2 v3 0 1 t) (Og (StpT n x s0)) := by
  rw [b249_1]
  unfold kMd
  exact rq_iM (fun z => absurd z i10) (fun _ => rq_iM (fun _ => fin_s (row_k D w nb) h26 hp) (fun z => absurd rfl z))
theorem fin_1 {n x : Nat} {s t s0 : Sg} {v1 v2 v3 : Int32} (D : DyR n 1 1 x s t) (w : RwR 51 2030 s (t.1 1) x ∧ VdR 2030 (t.1 1) x) (hb : s.1 72 x = 124 ∨ s.1 72 x = 128) (hv : v2.toInt = (x : Int)) (h26 : ¬ v1 = 26) (hp : (s0.1 7 2).toInt ≤ (s.1 7 4).toInt) : RQ (f_X1_takeStep_b249 1 s) (kMd v1 v2 v3 1 1 t) (Og (StpT n x s0)) := by
  rw [b249_1]
  unfold kMd
  refine rq_iM (fun z => absurd z i10) (fun _ => rq_iM (fun z => absurd z i10) (fun _ => rq_cM (fun _ => rq_nM (fun t2 e2 => ?_))))
  rw [e2]
  have e22 : (pI t 8 ((t.1 0 22).toNatClampNeg) v2).1 0 22 = t.1 0 22 := q_nc rfl
  rw [e22]
  exact fin_s (row_b D w hb v2 hv) h26 hp
theorem clz_fr {x : Nat} {t t' : Sg} (h : ClZ x t t') : Fr cdN (2 ^ 1) t t' := fun c k hb => by
  by_cases z : c = 1
  · subst z
    have y : cdN 1 k = 1 := rfl
    rw [y] at hb
    exact absurd hb (by decide)
  · exact ⟨by rw [h.1 c z], by rw [h.2.1]⟩
/-- both sides say what is wrong -/
theorem flk_d {n : Nat} {s t : Sg} {H : Sg → Sg → Prop} (h : TkRel n s t) (h0 : t.1 0 18 = 0) (a : Int32) (ha : 0 < a.toInt) (KK : Sg → Option (Int32 × Sg)) : RQ (bd (bd (f_X7_wrong a s) (fun r s => ck (r = 0 ∨ r = 1) (some (r, s)))) (fun r s => if r = 0 then some ((0 : Int32), s) else KK s)) (bd (f_X12_fails a t) (fun r t => ck (r = 0 ∨ r = 1) (some (r, t)))) (Og H) := by
  refine rc_b (rq_b2 (fails_r h h0 a ha) (fun r1 s1 r2 t1 g => ?_))
  obtain ⟨g1, g2, g3⟩ := g
  rw [g1, g2]
  exact rc_c (fun _ => rc_s (rq_iC (fun _ => rq_cM (fun _ => rq_s (Or.inr ⟨rfl, rfl, g3⟩))) (fun y => absurd rfl y)))
theorem bg_k {n x : Nat} {dd : Int} {s t sA : Sg} (h : DyR n 0 0 x s t) (W Kd v4 b : Int32) (hdd : dd = 0 ∨ dd = 1) (hd3 : (s.1 9 4).toInt + dd ≤ 3) (h30 : (t.1 0 23).toInt < 30) (h26 : ¬ Kd = 26) (hb : b.toInt = 2030 + 6 * (x : Int)) (tk : TkRel n sA t) (cA : ∀ c, ¬ c = 9 → ¬ c = 23 → sA.1 c = s.1 c) (kA : sA.2 = s.2) (c9 : (sA.1 9 4).toInt = (s.1 9 4).toInt + dd) (c23 : ∀ d : Nat, (d : Int) < (s.1 9 4).toInt → sA.1 23 d = s.1 23 d) (c23' : dd = 1 → sA.1 23 (s.1 9 4).toInt.toNat = s.1 54 7) (ho : ∀ s' t', DyR n dd 1 x s' t' → s'.1 72 x = W → t'.1 1 (2030 + 6 * x) = Kd → (s.1 7 2).toInt ≤ (s'.1 7 4).toInt → RQ (OrC W (s.1 54 7) s') (bd (f_X12_dayOrder Kd b t') (kMd Kd (t.1 1 1931) b v4)) (Og (StpT n x s))) : RQ (bd (f_X1_beginStep_b129 W sA) (fun r s2 => if r = 0 then some ((0 : Int32), s2) else ck (inr (s.1 54 7) 60) (OrC (s2.1 72 ((s.1 54 7).toNatClampNeg)) (s.1 54 7) s2))) (f_X12_dayStep_b122 Kd (t.1 1 1931) b v4 t) (Og (StpT n x s)) := by
  obtain ⟨⟨q1, q2, q3, q4⟩, ⟨q5, q6⟩, q7, q8⟩ := h.2.1
  have hx : x < 60 := by omega
  have c54 : sA.1 54 = s.1 54 := cA 54 (by decide) (by decide)
  have x54 : (s.1 54 7).toNatClampNeg = x := cl_h (by rw [q1]; omega)
  unfold f_X1_beginStep_b129 f_X12_dayStep_b122
  refine rc_c (fun _ => rc_n (fun s8 e8 => rc_n (fun s9 e9 => rc_b ?_)))
  refine rq_iM (fun z => absurd z h26) (fun _ => rq_cM (fun _ => rq_nM (fun t27 e27 => ?_)))
  rw [c54, x54] at e8
  rw [row_0 hb] at e27
  have z27 : ClZ x t27 t27 := ⟨fun _ _ => rfl, rfl, fun _ _ => rfl⟩
  refine lp_d (x := x) (t0 := t27) Kd (t.1 1 1931) b v4 hx hb (fun t' hz => ?_) BIG 1 1 t27 rfl (by decide) (by decide) z27
  have k8 : s8.1 54 = s.1 54 := by rw [e8, pI_o _ _ _ _ _ (by decide), c54]
  have e9' : s9 = pI (pI s8 54 7 ((s.1 54 7) + 1)) 54 8 ((s.1 54 8) + 1) := by
    rw [e9, pI_1, if_neg (by decide), k8]
  have f1 : TkRel n s8 t := by
    rw [e8]
    exact tk_f (L1 := 2 ^ 72) (L2 := 0) tk (fr_x 72 rfl) fr_r (m_and rfl) rfl
  have f2 : TkRel n s9 t := by
    rw [e9']
    exact tk_f (L1 := 2 ^ 220) (L2 := 0) (tk_f (L1 := 2 ^ 219) (L2 := 0) f1 (fr_x 219 rfl) fr_r (m_and rfl) rfl) (fr_x 220 rfl) fr_r (m_and rfl) rfl
  have f3 : TkRel n s9 t27 := by
    rw [e27]
    exact tk_f (L1 := 0) (L2 := 2 ^ 1) (tk_f (L1 := 0) (L2 := 2 ^ 43) f2 fr_r (fr_x 43 rfl) rfl (m_and rfl)) fr_r (fr_x 1 rfl) rfl (m_and rfl)
  have f4 : TkRel n s9 t' := tk_f (L1 := 0) (L2 := 2 ^ 1) f3 fr_r (clz_fr hz) rfl (m_and rfl)
  have f5 : TkRel n s9 (pI t' 1 1931 ((t'.1 1 1931) + 1)) := tk_f (L1 := 0) (L2 := 2 ^ 1) f4 fr_r (fr_x 1 rfl) rfl (m_and rfl)
  have g9 : ∀ c, ¬ c = 9 → ¬ c = 23 → ¬ c = 54 → ¬ c = 72 → s9.1 c = s.1 c := fun c z1 z2 z3 z4 => by
    rw [e9', pI_o _ _ _ _ _ z3, pI_o _ _ _ _ _ z3, e8, pI_o _ _ _ _ _ z4, cA c z1 z2]
  have g9a : ∀ c, ¬ c = 54 → ¬ c = 72 → s9.1 c = sA.1 c := fun c z3 z4 => by
    rw [e9', pI_o _ _ _ _ _ z3, pI_o _ _ _ _ _ z3, e8, pI_o _ _ _ _ _ z4]
  have g72 : ∀ k, s9.1 72 k = if k = x then W else s.1 72 k := fun k => by
    rw [e9', pI_o _ _ _ _ _ (by decide), pI_o _ _ _ _ _ (by decide), e8, pI_1]
    by_cases z : k = x
    · rw [if_pos ⟨rfl, z⟩, if_pos z]
    · rw [if_neg (fun y => z y.2), if_neg z, cA 72 (by decide) (by decide)]
  have h27 : ∀ p, ¬ p = 2030 + 6 * x + 0 → t27.1 1 p = t.1 1 p := fun p hp => by
    rw [e27, pI_1, if_neg (fun z => hp z.2), pI_o _ _ _ _ _ (by decide)]
  have h31 : t'.1 1 1931 = t.1 1 1931 := by rw [hz.2.2 1931 (by omega), h27 1931 (by omega)]
  have h27c : ∀ c, ¬ c = 0 → ¬ c = 1 → t27.1 c = t.1 c := fun c z1 z2 => by
    rw [e27, pI_o _ _ _ _ _ z2, pI_o _ _ _ _ _ z1]
  have h270 : ∀ k, t27.1 0 k = if k = 23 then (t.1 0 23) + 1 else t.1 0 k := fun k => by
    rw [e27, pI_o _ _ _ _ _ (by decide), pI_1]
    by_cases z : k = 23
    · rw [if_pos ⟨rfl, z⟩, if_pos z]
    · rw [if_neg (fun y => z y.2), if_neg z]
  have D : DyR n dd 1 x s9 (pI t' 1 1931 ((t'.1 1 1931) + 1)) := by
    refine beg_d h f5 hdd hd3 h30 (fun c z1 z2 => g9 c (by omega) (by omega) (by omega) (by omega)) (by rw [e9', e8, ← kA]; rfl) (fun c z1 z2 k hk => ?_) ⟨?_, ?_, ?_⟩ (by rw [g9a 9 (by decide) (by decide)]; exact c9) (fun d hd => by rw [g9a 23 (by decide) (by decide)]; exact c23 d hd) (fun z => by rw [g9a 23 (by decide) (by decide)]; exact c23' z) ?_ ?_ ⟨?_, ?_, ?_⟩ ?_ (fun p z1 z2 => ?_)
    · by_cases z : c = 72
      · subst z
        rw [g72, if_neg (by omega)]
      · rw [g9 c (by omega) (by omega) (by omega) z]
    · rw [e9', pI_1, if_neg (by decide), q_eq]
    · rw [e9', q_eq]
    · rw [e9', pI_1, if_neg (by decide), pI_1, if_neg (by decide), k8]
    · show t'.2 2 = t.2 2
      rw [hz.2.1, e27]
      rfl
    · rw [pI_o _ _ _ _ _ (by decide), hz.1 8 (by decide), h27c 8 (by decide) (by decide)]
    · rw [pI_o _ _ _ _ _ (by decide), hz.1 0 (by decide), h270, if_neg (by decide)]
    · rw [pI_o _ _ _ _ _ (by decide), hz.1 0 (by decide), h270, if_neg (by decide)]
    · rw [pI_o _ _ _ _ _ (by decide), hz.1 0 (by decide), h270, if_pos rfl]
    · rw [q_eq, h31]
    · rw [pI_1, if_neg (fun y => z1 y.2), hz.2.2 p (by omega), h27 p (by omega)]
  refine rq_b2 (adv_s D.1.1.1) (fun _ s11 _ t11 w => rc_s (rq_iC (fun z => absurd z i10) (fun _ => rq_cC (fun _ => ?_))))
  obtain ⟨D2, C2⟩ := dy_st w D
  have w72 : s11.1 72 x = W := by rw [C2.1 72 (by decide) (by decide), g72, if_pos rfl]
  have m11 : t11.1 1 (2030 + 6 * x) = Kd := by
    rw [C2.2, pI_1, if_neg (fun y => by have := y.2; omega), hz.2.2 _ (by omega), e27]
    exact q_eq
  have l9 : s9.1 7 2 = s.1 7 2 := by rw [g9 7 (by decide) (by decide) (by decide) (by decide)]
  have pw := w.2.2.2
  rw [l9] at pw
  rw [x54, w72]
  exact ho s11 t11 D2 w72 m11 pw
theorem stp_d {n x : Nat} {dd : Int} {s t : Sg} (h : DyR n 0 0 x s t) (W Kd v4 : Int32) (hB : f_X1_beginStep s = f_X1_beginStep_b26 W v4 s) (hS : PQ (f_X1_isStepWord W s) (fun r s' => s' = s ∧ r = 1)) (h26 : ¬ Kd = 26) (h4 : (v4 = 0 ∧ dd = 0) ∨ (v4 = 1 ∧ dd = 1)) (hb42 : ∀ x3, f_X12_dayStep_b42 Kd (t.1 1 1931) x3 v4 t = f_X12_dayStep_b61 Kd (t.1 1 1931) x3 v4 t) (ho : ∀ s' t', DyR n dd 1 x s' t' → s'.1 72 x = W → t'.1 1 (2030 + 6 * x) = Kd → (s.1 7 2).toInt ≤ (s'.1 7 4).toInt → x < 60 → RQ (OrC W (s.1 54 7) s') (bd (f_X12_dayOrder Kd (2030 + 6 * (t.1 1 1931)) t') (kMd Kd (t.1 1 1931) (2030 + 6 * (t.1 1 1931)) v4)) (Og (StpT n x s))) : RQ (f_X1_takeStep s) (f_X12_dayStep_b42 Kd (t.1 1 1931) (2030 + 6 * (t.1 1 1931)) v4 t) (Og (StpT n x s)) := by
  have tk := h.1.1.1
  have h0 := h.1.1.2
  obtain ⟨⟨q1, q2, q3, q4⟩, ⟨q5, q6⟩, q7, q8⟩ := h.2.1
  have c30 : (30 : Int32).toInt = 30 := rfl
  have c60 : (60 : Int32).toInt = 60 := rfl
  have c3 : (3 : Int32).toInt = 3 := rfl
  have c6 : (6 : Int32).toInt = 6 := rfl
  have c2030 : (2030 : Int32).toInt = 2030 := rfl
  have em : (6 * (t.1 1 1931)).toInt = 6 * (t.1 1 1931).toInt := by
    rw [i_mulx _ _ (by rw [c6]; omega), c6]
  have hb : (2030 + 6 * (t.1 1 1931)).toInt = 2030 + 6 * (x : Int) := by
    rw [i_addx _ _ (by rw [em, c2030]; omega), em, c2030]
    omega
  rw [ts_e, hB, hb42]
  unfold f_X1_beginStep_b26 f_X12_dayStep_b61
  refine rc_b (rq_bC hS (fun r s2 m => ?_))
  obtain ⟨es, er⟩ := m
  rw [es, er]
  refine rc_i (fun z => absurd z i10) (fun _ => rq_iM (fun z => absurd z h26) (fun _ => ?_))
  unfold f_X12_dayStep_b80
  refine rq_iM (fun z => absurd z h26) (fun _ => rc_i (fun c => ?_) (fun c => ?_))
  · have y : t.1 0 23 = 30 := by
      have := Int32.le_iff_toInt_le.mp c
      rw [q2] at this
      exact Int32.toInt_inj.mp (by omega)
    exact rq_iM (fun _ => flk_d tk h0 6 (by decide) _) (fun z => absurd y z)
  · have c' := i_nle c
    rw [q2] at c'
    have h30 : (t.1 0 23).toInt < 30 := by omega
    have hx : x < 60 := by omega
    refine rq_iM (fun z => ?_) (fun _ => rc_i (fun _ => ?_) (fun z => ?_))
    · rw [z] at h30
      omega
    · unfold f_X12_dayStep_b102
      rcases h4 with ⟨z, z'⟩ | ⟨z, z'⟩ <;> subst z <;> subst z'
      · refine rc_i (fun _ => rq_iM (fun _ => ?_) (fun z => absurd rfl z)) (fun z => absurd rfl z)
        unfold f_X1_beginStep_b99
        refine rc_i (fun _ => ?_) (fun z => absurd rfl z)
        exact bg_k h W Kd 0 _ (Or.inl rfl) (by omega) h30 h26 hb tk (fun _ _ _ => rfl) rfl (by omega) (fun _ _ => rfl) (fun z => absurd z (by decide)) (fun s' t' y1 y2 y3 y4 => ho s' t' y1 y2 y3 y4 hx)
      · refine rc_i (fun z => absurd z i10) (fun _ => rq_iM (fun z => absurd z i10) (fun _ => rc_i (fun c4 => ?_) (fun c4 => ?_)))
        · have d3 := Int32.lt_iff_toInt_lt.mp c4
          refine rq_iM (fun z => ?_) (fun _ => ?_)
          · rw [z] at q3
            omega
          · unfold f_X1_beginStep_b99
            refine rc_i (fun z => absurd z i10) (fun _ => rc_c (fun _ => rc_n (fun s13 e13 => ?_)))
            have e1 : (1 : Int32).toInt = 1 := rfl
            have k9 : s13.1 9 4 = s.1 9 4 := by rw [e13, q_nc rfl]
            rw [k9]
            have ea : ((s.1 9 4) + 1).toInt = (s.1 9 4).toInt + 1 := i_addx _ _ (by omega)
            have cl := cl_nat (s.1 9 4)
            have tA : TkRel n (pI s13 9 4 ((s.1 9 4) + 1)) t := by
              rw [e13]
              exact tk_f (L1 := 2 ^ 228) (L2 := 0) (tk_f (L1 := 2 ^ 23) (L2 := 0) tk (fr_x 23 rfl) fr_r (m_and rfl) rfl) (fr_x 228 rfl) fr_r (m_and rfl) rfl
            have c23 : ∀ d, (pI s13 9 4 ((s.1 9 4) + 1)).1 23 d = if d = (s.1 9 4).toNatClampNeg then s.1 54 7 else s.1 23 d := fun d => by
              rw [pI_o _ _ _ _ _ (by decide), e13, pI_1]
              by_cases z : d = (s.1 9 4).toNatClampNeg
              · rw [if_pos ⟨rfl, z⟩, if_pos z]
              · rw [if_neg (fun y => z y.2), if_neg z]
            exact bg_k h W Kd 1 _ (Or.inr rfl) (by omega) h30 h26 hb tA (fun c z1 z2 => by rw [pI_o _ _ _ _ _ z1, e13, pI_o _ _ _ _ _ z2]) (by rw [e13]; rfl) (by rw [q_eq]; exact ea) (fun d hd => by rw [c23, if_neg (by omega)]) (fun _ => by rw [c23, if_pos (by omega)]) (fun s' t' y1 y2 y3 y4 => ho s' t' y1 y2 y3 y4 hx)
        · have d3 : ¬ (s.1 9 4).toInt < 3 := fun y => c4 (Int32.lt_iff_toInt_lt.mpr (by omega))
          have y : t.1 0 22 = 3 := Int32.toInt_inj.mp (by omega)
          exact rq_iM (fun _ => flk_d tk h0 7 (by decide) _) (fun z => absurd y z)
    · exact absurd (Int32.lt_iff_toInt_lt.mpr (by rw [q1]; omega)) z
