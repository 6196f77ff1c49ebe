/-! frames of what a step does: the reference's acts keep the rows, the plan, the counters -/
def KL (w : Bool) (t0 t : Sg) : Prop := (w = true → t.1 1 4 = t0.1 1 4) ∧ (∀ p, (110 ≤ p ∨ PlP p ∨ p = 11) → t.1 1 p = t0.1 1 p) ∧ (∀ c, ¬ c = 0 → ¬ c = 1 → t.1 c = t0.1 c) ∧ (∀ k, ¬ k = 25 → ¬ k = 26 → t.1 0 k = t0.1 0 k) ∧ t.2 = t0.2
theorem gpl_11 {p : Nat} (h : GPl p) : ¬ 11 = p := by
  rcases h with y | ⟨g, y⟩ | ⟨q, y, y'⟩ | y | y | y <;> omega
theorem plq {p : Nat} (h : PlP p) : 110 ≤ p ∨ PlP p ∨ p = 11 := Or.inr (Or.inl h)
theorem kl_r {w : Bool} {t : Sg} : KL w t t := ⟨fun _ => rfl, fun _ _ => rfl, fun _ _ _ => rfl, fun _ _ _ => rfl, rfl⟩
theorem kl_f {w : Bool} {a b : Sg} (h : KL w a b) : KL false a b := ⟨fun z => (by cases z), h.2⟩
theorem kl_i {w : Bool} {t0 t : Sg} {p : Nat} {v : Int32} (h : KL w t0 t) (g : p < 110 ∧ GPl p ∧ ¬ p = 4) : KL w t0 (pI t 1 p v) := ⟨fun z => by
  rw [pI_1, if_neg (fun y => g.2.2 y.2.symm)]
  exact h.1 z, fun k hk => by
  rw [pI_1, if_neg ?_]
  · exact h.2.1 k hk
  · rintro ⟨-, z⟩
    rcases hk with y | y | y
    · have := g.1
      omega
    · exact plp_n g.2.1 y z
    · exact gpl_11 g.2.1 (y.symm.trans z), fun c h1 h2 => by rw [pI_o _ _ _ _ _ h2]; exact h.2.2.1 c h1 h2, fun k h1 h2 => by rw [q_nc rfl]; exact h.2.2.2.1 k h1 h2, h.2.2.2.2⟩
theorem kl_4 {t0 t : Sg} {v : Int32} (h : KL false t0 t) : KL false t0 (pI t 1 4 v) := ⟨fun z => (by cases z), fun k hk => by
  rw [pI_1, if_neg ?_]
  · exact h.2.1 k hk
  · rintro ⟨-, z⟩
    rcases hk with y | y | y
    · omega
    · exact plp_n (Or.inr (Or.inr (Or.inr (Or.inl ⟨Nat.le_refl 4, by decide⟩)))) y z
    · omega, fun c h1 h2 => by rw [pI_o _ _ _ _ _ h2]; exact h.2.2.1 c h1 h2, fun k h1 h2 => by rw [q_nc rfl]; exact h.2.2.2.1 k h1 h2, h.2.2.2.2⟩
theorem kl_0 {w : Bool} {t0 t : Sg} {k : Nat} {v : Int32} (h : KL w t0 t) (hk : k = 25 ∨ k = 26) : KL w t0 (pI t 0 k v) := ⟨fun z => by rw [q_nc rfl]; exact h.1 z, fun p hp => by rw [q_nc rfl]; exact h.2.1 p hp, fun c h1 h2 => by rw [pI_o _ _ _ _ _ h1]; exact h.2.2.1 c h1 h2, fun j h1 h2 => by
  rw [pI_1, if_neg (fun z => by have := z.2; omega)]
  exact h.2.2.2.1 j h1 h2, h.2.2.2.2⟩
theorem gpl_h {p h : Nat} (hh : h < 8) (z : p = 16 + 3 * h ∨ p = 17 + 3 * h ∨ p = 18 + 3 * h) : p < 110 ∧ GPl p ∧ ¬ p = 4 := ⟨by omega, Or.inl (by omega), by omega⟩
theorem gpl_f {p : Nat} (z : (5 ≤ p ∧ p ≤ 8) ∨ p = 10 ∨ p = 12) : p < 110 ∧ GPl p ∧ ¬ p = 4 := ⟨by omega, Or.inr (Or.inr (Or.inr (by omega))), by omega⟩
theorem gpl_g {p g : Nat} (hg : g < 4) (z : p = 92 + 3 * g) : p < 110 ∧ GPl p ∧ ¬ p = 4 := ⟨by omega, Or.inr (Or.inl ⟨g, z⟩), by omega⟩
def BdK (t : Sg) : Prop := (0 ≤ (t.1 1 0).toInt ∧ (t.1 1 0).toInt ≤ 8) ∧ (0 ≤ (t.1 1 1).toInt ∧ (t.1 1 1).toInt ≤ 8) ∧ (0 ≤ (t.1 1 2).toInt ∧ (t.1 1 2).toInt ≤ 4) ∧ (∀ c : Nat, (c : Int) < (t.1 1 2).toInt → (0 ≤ (t.1 1 (80 + 3 * c)).toInt ∧ (t.1 1 (80 + 3 * c)).toInt < 8) ∧ (0 ≤ (t.1 1 (81 + 3 * c)).toInt ∧ (t.1 1 (81 + 3 * c)).toInt < 8)) ∧ (∀ q : Nat, (q : Int) < (t.1 1 1).toInt → q < 8 ∧ EndsM (t.1 1) q) ∧ t.1 0 24 = -1
theorem bdk_k {t0 t : Sg} (h : BdK t0) {w : Bool} (k : KL w t0 t) : BdK t := by
  have e : ∀ p, p < 4 → t.1 1 p = t0.1 1 p := fun p hp => k.2.1 p (plq (plp_0 (Or.inl hp)))
  obtain ⟨h0, h1, h2, h3, h4, h5⟩ := h
  unfold BdK
  rw [e 0 (by decide), e 1 (by decide), e 2 (by decide), k.2.2.2.1 24 (by decide) (by decide)]
  refine ⟨h0, h1, h2, fun c hc => ?_, fun q hq => ?_, h5⟩
  · rw [k.2.1 _ (plq (plp_c (c := c) (by omega)).1), k.2.1 _ (plq (plp_c (c := c) (by omega)).2.1)]
    exact h3 c hc
  · have w := h4 q hq
    refine ⟨w.1, ?_⟩
    unfold EndsM
    rw [k.2.1 _ (plq (plp_q w.1).1), k.2.1 _ (plq (plp_q w.1).2.1)]
    exact w.2
theorem bdk_of {o : Nat} {s t : Sg} (H : NowG o s t) : BdK t := by
  have b := H.1.1.2.1
  refine ⟨b.1, b.2.1, b.2.2.1, fun c hc => ?_, fun q hq => ⟨(pln_q H.1.1 hq).1, (pln_q H.1.1 hq).2.2.1⟩, H.2.1.2⟩
  have pc := H.1.1.2.2.2.2.2.1 c hc
  have p1 : s.1 35 c = t.1 1 (80 + 3 * c) := pc.1.1
  have p2 : s.1 36 c = t.1 1 (81 + 3 * c) := pc.1.2.1
  have q1 : 0 ≤ (s.1 35 c).toInt ∧ (s.1 35 c).toInt < (t.1 1 0).toInt := pc.2.1
  have q2 : 0 ≤ (s.1 36 c).toInt ∧ (s.1 36 c).toInt < (t.1 1 0).toInt := pc.2.2.1
  have b0 : (t.1 1 0).toInt ≤ 8 := b.1.2
  rw [← p1, ← p2]
  omega
theorem kl_strews {w : Bool} {t0 t : Sg} (K : KL w t0 t) {a : Int32} {h : Nat} (ha : a.toInt = (h : Int)) (hh : h < 8) (g : Int32) : PQ (f_X12_strews a g t) (fun _ t' => KL w t0 t') := pq_w (strews_m ha hh g t) (fun _ t' y => by
  rw [y]
  exact kl_i (kl_i K (gpl_h hh (Or.inl rfl))) (gpl_f (Or.inl (by decide))))
theorem kl_buys {w : Bool} {t0 t : Sg} (K : KL w t0 t) {a c : Int32} {g h : Nat} (ha : a.toInt = (g : Int)) (hg : g < 4) (hc : c.toInt = (h : Int)) (hh : h < 8) (n : Int32) : PQ (f_X12_buys a n c t) (fun _ t' => KL w t0 t') := by
  have x := gx_x ha hg
  have y := hr_x hc hh
  unfold f_X12_buys
  refine pq_c (fun _ => pq_n (fun x2 _ => pq_c (fun _ => pq_n (fun s4 e4 => pq_c (fun _ => pq_n (fun s6 e6 => ?_))))))
  rw [x.1] at e4
  have k4 : KL w t0 s4 := by
    rw [e4]
    exact kl_i K (gpl_g hg rfl)
  have k6 : KL w t0 s6 := by
    rw [e6]
    exact kl_i k4 (gpl_f (Or.inr (Or.inr rfl)))
  refine pq_b (kl_strews k6 hc hh _) (fun _ s8 k8 => pq_b (hr_p c s8) (fun r9 s10 w => ?_))
  obtain ⟨es, er⟩ := w
  rw [es, er]
  refine pq_c (fun _ => pq_n (fun s12 e12 => pq_s ?_))
  rw [y.2.1] at e12
  have k12 : KL w t0 s12 := by
    rw [e12]
    exact kl_i k8 (gpl_h hh (Or.inr (Or.inl rfl)))
  exact kl_i k12 (gpl_f (Or.inl (by decide)))
theorem kl_sweeps {w : Bool} {t0 t : Sg} (K : KL w t0 t) {a : Int32} {h : Nat} (ha : a.toInt = (h : Int)) (hh : h < 8) : PQ (f_X12_sweeps a t) (fun _ t' => KL w t0 t') := by
  have y := hr_x ha hh
  unfold f_X12_sweeps
  refine pq_b (grains_m ha hh t) (fun r1 s2 w => ?_)
  obtain ⟨es, -⟩ := w
  rw [es]
  refine pq_b (hr_p a t) (fun r3 s4 w => ?_)
  obtain ⟨es, er⟩ := w
  rw [es, er]
  refine pq_c (fun _ => pq_b (hr_p a _) (fun r6 s7 w => ?_))
  obtain ⟨es, er⟩ := w
  rw [es, er, y.1]
  refine pq_c (fun _ => pq_n (fun s9 e9 => pq_s ?_))
  rw [y.2.1] at e9
  have k9 : KL w t0 s9 := by
    rw [e9]
    exact kl_i (kl_i K (gpl_h hh (Or.inl rfl))) (gpl_h hh (Or.inr (Or.inl rfl)))
  exact kl_i k9 (gpl_f (Or.inl (by decide)))
theorem kl_rains {w : Bool} {t0 : Sg} (B : BdK t0) (m : Nat) : ∀ (i : Nat) (v1 v2 : Int32) (t : Sg), v2.toInt = (i : Int) → i ≤ 8 → KL w t0 t → PQ (f_X12_rains_b4 m v1 v2 t) (fun _ t' => KL w t0 t') := by
  induction m with
  | zero => intro i v1 v2 t _ _ _ r t' z; cases z
  | succ m ih =>
    intro i v1 v2 t hv hi K
    have e1 : (1 : Int32).toInt = 1 := rfl
    have b0 := (bdk_k B K).1.2
    unfold f_X12_rains_b4
    refine pq_if (fun _ => pq_n (fun s1 e1 => pq_s ?_)) (fun c => ?_)
    · rw [e1]
      exact kl_i (kl_i K (gpl_f (Or.inl (by decide)))) (gpl_f (Or.inr (Or.inl rfl)))
    · have c := i_nle c
      have hh : i < 8 := by omega
      have y := hr_x hv hh
      refine pq_b (hr_p v2 t) (fun r2 s3 w => ?_)
      obtain ⟨es, er⟩ := w
      rw [es, er]
      refine pq_c (fun _ => pq_n (fun x5 _ => pq_c (fun _ => pq_n (fun x7 _ => pq_n (fun s8 e8 => pq_n (fun s9 e9 => ?_))))))
      rw [y.1] at e8
      rw [y.2.1] at e9
      refine ih (i + 1) x7 (v2 + 1) s9 (by rw [i_addx _ _ (by omega)]; omega) (by omega) ?_
      rw [e9, e8]
      exact kl_i (kl_i K (gpl_h hh (Or.inl rfl))) (gpl_h hh (Or.inr (Or.inl rfl)))
theorem kl_snows {w : Bool} {t0 : Sg} (B : BdK t0) (v1 : Int32) (m : Nat) : ∀ (i : Nat) (v2 : Int32) (t : Sg), v2.toInt = (i : Int) → i ≤ 8 → KL w t0 t → PQ (f_X12_snows_b2 m v1 v2 t) (fun _ t' => KL w t0 t') := by
  induction m with
  | zero => intro i v2 t _ _ _ r t' z; cases z
  | succ m ih =>
    intro i v2 t hv hi K
    have e1 : (1 : Int32).toInt = 1 := rfl
    have b0 := (bdk_k B K).1.2
    unfold f_X12_snows_b2
    refine pq_if (fun _ => pq_s K) (fun c => ?_)
    have c := i_nle c
    have hh : i < 8 := by omega
    have y := hr_x hv hh
    have a1 : (v2 + 1).toInt = ((i + 1 : Nat) : Int) := by rw [i_addx _ _ (by omega)]; omega
    refine pq_b (gone_m hv (by omega) t) (fun r1 s2 w => ?_)
    obtain ⟨es, -⟩ := w
    rw [es]
    refine pq_if (fun _ => ?_) (fun _ => ih (i + 1) (v2 + 1) t a1 (by omega) K)
    refine pq_b (hr_p v2 t) (fun r3 s4 w => ?_)
    obtain ⟨es, er⟩ := w
    rw [es, er]
    refine pq_b (hr_p v2 t) (fun r5 s6 w => ?_)
    obtain ⟨es, er⟩ := w
    rw [es, er]
    refine pq_c (fun _ => pq_c (fun _ => pq_n (fun s9 e9 => ?_)))
    rw [y.2.2] at e9
    refine ih (i + 1) (v2 + 1) s9 a1 (by omega) ?_
    rw [e9]
    exact kl_i K (gpl_h hh (Or.inr (Or.inr rfl)))
theorem kl_brings {w : Bool} {t0 t : Sg} (K : KL w t0 t) {a b : Int32} {h j : Nat} (ha : a.toInt = (h : Int)) (hh : h < 8) (hb : b.toInt = (j : Int)) (hj : j < 8) (n : Int32) : PQ (f_X12_brings a b n t) (fun _ t' => KL w t0 t') := by
  have y := hr_x ha hh
  have z := hr_x hb hj
  unfold f_X12_brings
  refine pq_b (hr_p a t) (fun r3 s4 w => ?_)
  obtain ⟨es, er⟩ := w
  rw [es, er]
  refine pq_c (fun _ => pq_n (fun x4 _ => pq_b (hr_p a t) (fun r5 s6 w => ?_)))
  obtain ⟨es, er⟩ := w
  rw [es, er]
  refine pq_c (fun _ => pq_n (fun x8 _ => pq_b (hr_p a t) (fun r9 s10 w => ?_)))
  obtain ⟨es, er⟩ := w
  rw [es, er]
  refine pq_c (fun _ => pq_n (fun s12 e12 => ?_))
  rw [y.1] at e12
  have k12 : KL w t0 s12 := by
    rw [e12]
    exact kl_i K (gpl_h hh (Or.inl rfl))
  refine pq_b (hr_p a s12) (fun r13 s14 w => ?_)
  obtain ⟨es, er⟩ := w
  rw [es, er]
  refine pq_c (fun _ => pq_n (fun s16 e16 => ?_))
  rw [y.2.1] at e16
  have k16 : KL w t0 s16 := by
    rw [e16]
    exact kl_i k12 (gpl_h hh (Or.inr (Or.inl rfl)))
  refine pq_b (hr_p b s16) (fun r17 s18 w => ?_)
  obtain ⟨es, er⟩ := w
  rw [es, er]
  refine pq_c (fun _ => pq_n (fun s20 e20 => ?_))
  rw [z.1] at e20
  have k20 : KL w t0 s20 := by
    rw [e20]
    exact kl_i k16 (gpl_h hj (Or.inl rfl))
  refine pq_b (hr_p b s20) (fun r21 s22 w => ?_)
  obtain ⟨es, er⟩ := w
  rw [es, er]
  refine pq_c (fun _ => pq_n (fun s24 e24 => pq_s ?_))
  rw [z.2.1] at e24
  rw [e24]
  exact kl_i k20 (gpl_h hj (Or.inr (Or.inl rfl)))
theorem kl_157 {t0 t : Sg} (B : BdK t0) (K : KL false t0 t) : PQ (f_X12_nightGoes_b157 BIG 0 (pI (pI t 0 25 0) 0 26 0)) (fun _ t' => KL false t0 t') := by
  have b := bdk_k B K
  have k2 : KL false t0 (pI (pI t 0 25 0) 0 26 0) := kl_0 (kl_0 K (Or.inl rfl)) (Or.inr rfl)
  refine pq_w (ng_157 (M := t.1 1) (t0 := pI (pI t 0 25 0) 0 26 0) (by rw [pI_o _ _ _ _ _ (by decide), pI_o _ _ _ _ _ (by decide)]) b.2.2.2.2.1 (by rw [q_ne rfl, q_ne rfl]; exact b.2.2.2.2.2) b.2.1 BIG 0 0 _ rfl b.2.1.1 ⟨fun q hq => absurd hq (Nat.not_lt_zero _), fun p _ => by rw [q_nc rfl, q_nc rfl], ⟨fun _ _ _ => rfl, fun _ _ _ => rfl, rfl⟩, by rw [q_ne rfl, q_eq]; rfl, by rw [q_eq]; rfl⟩) (fun _ t' w => ?_)
  obtain ⟨t2, ⟨-, w2, ⟨w3, w4, w5⟩, -⟩, y⟩ := w
  have bq := b.2.1
  have k3 : KL false t0 t2 := by
    refine ⟨fun z => (by cases z), fun p hp => ?_, fun c h1 h2 => (w3 c h1 h2).trans (k2.2.2.1 c h1 h2), fun k h1 h2 => (w4 k h1 h2).trans (k2.2.2.2.1 k h1 h2), w5.trans k2.2.2.2.2⟩
    rw [w2 p (fun q hq => ?_)]
    · exact K.2.1 p hp
    · have hq8 : q < 8 := by omega
      rcases hp with z | z | z
      · omega
      · exact ⟨fun u => plp_n (Or.inr (Or.inr (Or.inl ⟨q, hq8, Or.inl rfl⟩))) z u, fun u => plp_n (Or.inr (Or.inr (Or.inl ⟨q, hq8, Or.inr rfl⟩))) z u⟩
      · omega
  rw [y]
  exact kl_i (kl_4 k3) (gpl_f (Or.inr (Or.inl rfl)))
theorem kl_73 {t0 : Sg} (B : BdK t0) (m : Nat) : ∀ (i : Nat) (v : Int32) (t : Sg), v.toInt = (i : Int) → i ≤ 8 → KL false t0 t → PQ (f_X12_nightGoes_b73 m v t) (fun _ t' => KL false t0 t') := by
  induction m with
  | zero => intro i v t _ _ _ r t' z; cases z
  | succ m ih =>
    intro i v t hv hi K
    have e1 : (1 : Int32).toInt = 1 := rfl
    have b0 := (bdk_k B K).1.2
    unfold f_X12_nightGoes_b73
    refine pq_if (fun _ => kl_157 B K) (fun c => ?_)
    have c := i_nle c
    have hh : i < 8 := by omega
    have y := hr_x hv hh
    refine pq_b (hr_p v t) (fun r2 s3 w => ?_)
    obtain ⟨es, er⟩ := w
    rw [es, er]
    refine pq_c (fun _ => pq_c (fun _ => pq_n (fun x19 _ => pq_n (fun s20 e20 => pq_n (fun s21 e21 => ?_)))))
    rw [y.1] at e20
    rw [y.2.2] at e21
    refine ih (i + 1) (v + 1) _ (by rw [i_addx _ _ (by omega)]; omega) (by omega) (kl_i ?_ (gpl_f (Or.inl (by decide))))
    rw [e21, e20]
    exact kl_i (kl_i K (gpl_h hh (Or.inl rfl))) (gpl_h hh (Or.inr (Or.inr rfl)))
theorem kl_b2 {t0 : Sg} (B : BdK t0) (m : Nat) : ∀ (i : Nat) (v : Int32) (t : Sg), v.toInt = (i : Int) → i ≤ 4 → KL false t0 t → PQ (f_X12_nightGoes_b2 m v t) (fun _ t' => KL false t0 t') := by
  induction m with
  | zero => intro i v t _ _ _ r t' z; cases z
  | succ m ih =>
    intro i v t hv hi K
    have e1 : (1 : Int32).toInt = 1 := rfl
    have b := bdk_k B K
    have b2 := b.2.2.1.2
    have a1 : (v + 1).toInt = ((i + 1 : Nat) : Int) := by rw [i_addx _ _ (by omega)]; omega
    unfold f_X12_nightGoes_b2
    refine pq_if (fun _ => kl_73 B BIG 0 0 t rfl (by decide) K) (fun c => ?_)
    have c := i_nle c
    have hi4 : i < 4 := by omega
    have x := cx_x hv hi4
    have hb := b.2.2.2.1 i (by omega)
    refine pq_c (fun _ => pq_b (hr_p _ t) (fun r2 s3 w => ?_))
    obtain ⟨es, er⟩ := w
    rw [es]
    refine pq_c (fun _ => pq_if (fun _ => pq_c (fun _ => pq_c (fun _ => ?_))) (fun _ => ih (i + 1) (v + 1) t a1 (by omega) K))
    exact pq_b (kl_brings K (h := (t.1 1 (80 + 3 * i)).toInt.toNat) (j := (t.1 1 (81 + 3 * i)).toInt.toNat) (by rw [x.1]; omega) (by omega) (by rw [x.2.1]; omega) (by omega) _) (fun _ s29 k => ih (i + 1) (v + 1) s29 a1 (by omega) k)
theorem kl_night {t : Sg} (B : BdK t) : PQ (f_X12_nightGoes t) (fun _ t' => KL false t t') := kl_b2 B BIG 0 0 t rfl (by decide) kl_r
