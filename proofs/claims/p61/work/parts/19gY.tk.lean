/-! a night on both sides -/
theorem rq_a {α β : Type} {oC : Option (α × Sg)} {oM : Option (β × Sg)} {R : α → Sg → β → Sg → Prop} {P : α → Sg → Prop} {Q : β → Sg → Prop} (h : RQ oC oM R) (p : PQ oC P) (q : PQ oM Q) : RQ oC oM (fun a s b t => R a s b t ∧ P a s ∧ Q b t) := fun a s b t e f => ⟨h a s b t e f, p a s e, q b t f⟩
def Pp (p : Nat) : Prop := PlP p ∨ (16 ≤ p ∧ p < 40)
theorem nd_c {M M' : Nat → Int32} (h : ∀ p, Pp p → M' p = M p) (e : Int) {q : Nat} (hq : q < 8) : nd M' e q = nd M e q := by
  unfold nd
  rw [h _ (Or.inl (plp_q hq).2.2)]
theorem atB_c {M M' : Nat → Int32} (h : ∀ p, Pp p → M' p = M p) {q : Nat} (hq : q < 8) (x : Nat) : atB M' q x = atB M q x := by
  unfold atB
  rw [h _ (Or.inl (plp_q hq).1), h _ (Or.inl (plp_q hq).2.1)]
theorem lf_c {M M' : Nat → Int32} (h : ∀ p, Pp p → M' p = M p) (e : Int) (x : Nat) (g : Int32) : ∀ n : Nat, n ≤ 8 → lf M' e x g n = lf M e x g n
  | 0, _ => rfl
  | n + 1, hn => by
    rw [lf_s, lf_s, lf_c h e x g n (by omega), nd_c h e (by omega), atB_c h (by omega)]
theorem sg_c {M M' : Nat → Int32} (h : ∀ p, Pp p → M' p = M p) {x : Nat} (hx : x < 8) : sgM M' x = sgM M x := by
  unfold sgM lyM
  rw [h _ (Or.inr (by omega)), h _ (Or.inr (by omega)), h _ (Or.inr (by omega))]
theorem flB_c {M M' : Nat → Int32} (h : ∀ p, Pp p → M' p = M p) (e : Int) {q : Nat} (hq : q < 8) (x : Nat) (g : Int32) : flB M' e q x g = flB M e q x g := by
  unfold flB
  rw [h 9 (Or.inl (plp_0 (by decide))), h 14 (Or.inl (plp_0 (by decide))), lf_c h e x g q (by omega), nd_c h e hq]
theorem pcB_c {M M' : Nat → Int32} (h : ∀ p, Pp p → M' p = M p) (e : Int) {q : Nat} (hq : q < 8) (hE : EndsM M q) : pcB M' e q = pcB M e q := by
  have a : h0 M' q = h0 M q := by
    unfold h0
    rw [h _ (Or.inl (plp_q hq).1)]
  have b : h1 M' q = h1 M q := by
    unfold h1
    rw [h _ (Or.inl (plp_q hq).2.1)]
  have x0 : h0 M q < 8 := by
    unfold h0
    have := hE.1
    omega
  have x1 : h1 M q < 8 := by
    unfold h1
    have := hE.2
    omega
  unfold pcB
  rw [a, b, flB_c h e hq, flB_c h e hq, sg_c h x0, sg_c h x1]
def cntI (f : Nat → Bool) : Nat → Int32
  | 0 => 0
  | n + 1 => cntI f n + (if f n = true then 1 else 0)
theorem cnt_s (f : Nat → Bool) (n : Nat) : cntI f (n + 1) = cntI f n + (if f n = true then 1 else 0) := rfl
theorem cnt_c {f g : Nat → Bool} : ∀ n : Nat, (∀ q, q < n → f q = g q) → cntI f n = cntI g n
  | 0, _ => rfl
  | n + 1, h => by
    rw [cnt_s, cnt_s, cnt_c n (fun q hq => h q (by omega)), h n (by omega)]
def ovN (M : Nat → Int32) (q : Nat) : Int32 := if pcB M (-1) q = true then 1 else if M 10 = 1 then 0 else M (43 + 5 * q)
def NgI (M : Nat → Int32) (t0 : Sg) (i : Nat) (t : Sg) : Prop := (∀ q, q < i → t.1 1 (43 + 5 * q) = ovN M q ∧ t.1 1 (44 + 5 * q) = M (44 + 5 * q) + (1 - ovN M q)) ∧ (∀ p, (∀ q, q < i → ¬ p = 43 + 5 * q ∧ ¬ p = 44 + 5 * q) → t.1 1 p = M p) ∧ ((∀ c, ¬ c = 0 → ¬ c = 1 → t.1 c = t0.1 c) ∧ (∀ k, ¬ k = 25 → ¬ k = 26 → t.1 0 k = t0.1 0 k) ∧ t.2 = t0.2) ∧ (t.1 0 25 = cntI (fun q => decide (M (43 + 5 * q) < ovN M q)) i ∧ t.1 0 26 = cntI (fun q => decide (ovN M q < M (43 + 5 * q))) i)
theorem add0 (a : Int32) : a + 0 = a := Int32.toInt_inj.mp (by
  have b := Int32.toInt_lt a
  have c := Int32.le_toInt a
  have e0 : (0 : Int32).toInt = 0 := rfl
  rw [i_addx a 0 (by omega), e0]
  omega)
theorem n221 {Q : Unit → Sg → Prop} (k : Int32 → Sg → Option (Unit × Sg)) (v1 v2 v3 : Int32) (t : Sg) {j3 j4 : Nat} (d3 : (v2 + 3).toNatClampNeg = j3) (d4 : (v2 + 4).toNatClampNeg = j4) (hk : ∀ u, u = pI (pI (pI t 0 25 (t.1 0 25 + (if v3 < t.1 1 j3 then 1 else 0))) 0 26 (t.1 0 26 + (if t.1 1 j3 < v3 then 1 else 0))) 1 j4 (t.1 1 j4 + (1 - t.1 1 j3)) → PQ (k (v1 + 1) u) Q) : PQ (f_X12_nightGoes_b221 k v1 v2 v3 t) Q := by
  have s269 : ∀ (a b : Int32) (u : Sg), u = pI t 0 25 (t.1 0 25 + a) → a = (if v3 < t.1 1 j3 then 1 else 0) → b = (if t.1 1 j3 < v3 then 1 else 0) → PQ (f_X12_nightGoes_b269 k v1 v2 b (u.1 0 26) u) Q := fun a b u hu ha hb => by
    unfold f_X12_nightGoes_b269
    refine pq_c (fun _ => pq_c (fun _ => pq_n (fun s13 e13 => hk s13 ?_)))
    rw [e13, d3, d4, q_nc rfl, q_nc rfl, hu, q_ne rfl, q_nc rfl, q_nc rfl, ha, hb]
  have s243 : ∀ (a : Int32), a = (if v3 < t.1 1 j3 then 1 else 0) → PQ (f_X12_nightGoes_b243 k v1 v2 v3 a (t.1 0 25) t) Q := fun a ha => by
    unfold f_X12_nightGoes_b243
    refine pq_c (fun _ => pq_if (fun c => s269 a 0 _ rfl ha ?_) (fun c => s269 a 1 _ rfl ha ?_))
    · rw [d3, q_nc rfl] at c
      have c := i_le c
      rw [if_neg (fun z => by have := i_lt z; omega)]
    · rw [d3, q_nc rfl] at c
      have c := i_nle c
      rw [if_pos (Int32.lt_iff_toInt_lt.mpr c)]
  unfold f_X12_nightGoes_b221
  refine pq_c (fun _ => pq_if (fun c => s243 0 ?_) (fun c => s243 1 ?_))
  · rw [d3] at c
    have c := i_le c
    rw [if_neg (fun z => by have := i_lt z; omega)]
  · rw [d3] at c
    have c := i_nle c
    rw [if_pos (Int32.lt_iff_toInt_lt.mpr c)]
theorem ng_157 {M : Nat → Int32} {t0 : Sg} (hM : M = t0.1 1) (hE : ∀ q : Nat, (q : Int) < (M 1).toInt → q < 8 ∧ EndsM M q) (h24 : t0.1 0 24 = -1) (hQ : 0 ≤ (M 1).toInt ∧ (M 1).toInt ≤ 8) (m : Nat) : ∀ (i : Nat) (v1 : Int32) (t : Sg), v1.toInt = (i : Int) → (i : Int) ≤ (M 1).toInt → NgI M t0 i t → PQ (f_X12_nightGoes_b157 m v1 t) (fun _ t' => ∃ t2, NgI M t0 (M 1).toInt.toNat t2 ∧ t' = pI (pI t2 1 4 (t2.1 1 4 + 1)) 1 10 0) := by
  induction m with
  | zero => intro i v1 t _ _ _ r t' e; cases e
  | succ m ih =>
    intro i v1 t h1 hi I
    obtain ⟨I1, I2, ⟨I3, I4, I5⟩, I6, I7⟩ := I
    have e1 : (1 : Int32).toInt = 1 := rfl
    have a1 : (v1 + 1).toInt = v1.toInt + 1 := i_addx v1 1 (by omega)
    have m1 : t.1 1 1 = M 1 := I2 1 (fun q _ => by omega)
    unfold f_X12_nightGoes_b157
    rw [m1]
    refine pq_if (fun c => pq_n (fun s1 es => pq_s ⟨t, ?_, es⟩)) (fun c => ?_)
    · have c := i_le c
      have z : (M 1).toInt.toNat = i := by omega
      rw [z]
      exact ⟨I1, I2, ⟨I3, I4, I5⟩, I6, I7⟩
    · have c := i_nle c
      have hi' : (i : Int) < (M 1).toInt := by omega
      have hq := hE i hi'
      have x := qr_x h1 hq.1
      refine pq_b (qrow_p v1 t) (fun r2 t3 k => ?_)
      obtain ⟨et, k⟩ := k
      subst et
      subst k
      refine pq_c (fun _ => pq_n (fun x5 e5 => ?_))
      rw [x.2.2.2.1] at e5
      have m43 : t3.1 1 (43 + 5 * i) = M (43 + 5 * i) := I2 _ (fun q _ => by omega)
      have m10 : t3.1 1 10 = M 10 := I2 10 (fun q _ => by omega)
      have mp : ∀ p, Pp p → t3.1 1 p = M p := fun p hp => I2 p (fun q hq' => by
        rcases hp with y | y
        · exact ⟨plp_n (Or.inr (Or.inr (Or.inl ⟨q, by omega, Or.inl rfl⟩))) y, plp_n (Or.inr (Or.inr (Or.inl ⟨q, by omega, Or.inr rfl⟩))) y⟩
        · omega)
      have e24 : (t3.1 0 24).toInt = -1 := by
        rw [I4 24 (by decide) (by decide), h24]
        rfl
      have hE3 : EndsM (t3.1 1) i := by
        unfold EndsM
        rw [mp _ (Or.inl (plp_q hq.1).1), mp _ (Or.inl (plp_q hq.1).2.1)]
        exact hq.2
      have nx : ∀ t8 : Sg, t8.1 1 (43 + 5 * i) = ovN M i → (∀ p, ¬ p = 43 + 5 * i → t8.1 1 p = t3.1 1 p) → (∀ c, ¬ c = 1 → t8.1 c = t3.1 c) → t8.2 = t3.2 → PQ (f_X12_nightGoes_b221 (f_X12_nightGoes_b157 m) v1 (40 + 5 * v1) x5 t8) (fun _ t' => ∃ t2, NgI M t0 (M 1).toInt.toNat t2 ∧ t' = pI (pI t2 1 4 (t2.1 1 4 + 1)) 1 10 0) := fun t8 w1 w2 w3 w4 => by
        refine n221 _ v1 _ x5 t8 x.2.2.2.1 x.2.2.2.2 (fun u hu => ih (i + 1) (v1 + 1) u (by omega) (by omega) ?_)
        have c0 : ∀ k, t8.1 0 k = t3.1 0 k := fun k => by rw [w3 0 (by decide)]
        have u1 : ∀ p, u.1 1 p = if p = 44 + 5 * i then t8.1 1 (44 + 5 * i) + (1 - ovN M i) else t8.1 1 p := fun p => by
          rw [hu, pI_1, w1]
          by_cases z : p = 44 + 5 * i
          · rw [if_pos ⟨rfl, z⟩, if_pos z]
          · rw [if_neg (fun y => z y.2), if_neg z, q_nc rfl, q_nc rfl]
        refine ⟨fun q hq' => ?_, fun p hp => ?_, ⟨fun c y1 y2 => ?_, fun k y1 y2 => ?_, ?_⟩, ?_, ?_⟩
        · by_cases z : q = i
          · subst z
            rw [u1, u1, if_neg (by omega), if_pos rfl, w1, w2 _ (by omega), I2 (44 + 5 * q) (fun q' _ => by omega)]
            exact ⟨rfl, rfl⟩
          · rw [u1, u1, if_neg (by omega), if_neg (by omega), w2 _ (by omega), w2 _ (by omega)]
            exact I1 q (by omega)
        · have y := hp i (by omega)
          rw [u1, if_neg y.2, w2 p y.1]
          exact I2 p (fun q hq' => hp q (by omega))
        · rw [hu, pI_o _ _ _ _ _ y2, pI_o _ _ _ _ _ y1, pI_o _ _ _ _ _ y1, w3 c y2]
          exact I3 c y1 y2
        · rw [hu, q_nc rfl, pI_1, if_neg (fun z => y2 z.2), pI_1, if_neg (fun z => y1 z.2), c0]
          exact I4 k y1 y2
        · rw [hu]
          show t8.2 = _
          rw [w4, I5]
        · rw [hu, q_nc rfl, q_ne rfl, q_eq, c0, I6, cnt_s, w1, e5, m43]
          by_cases z : M (43 + 5 * i) < ovN M i
          · rw [if_pos z, if_pos (decide_eq_true z)]
          · rw [if_neg z, if_neg (fun y => z (of_decide_eq_true y))]
        · rw [hu, q_nc rfl, q_eq, c0, I7, cnt_s, w1, e5, m43]
          by_cases z : ovN M i < M (43 + 5 * i)
          · rw [if_pos z, if_pos (decide_eq_true z)]
          · rw [if_neg z, if_neg (fun y => z (of_decide_eq_true y))]
      refine pq_b (peace_m h1 hq.1 t3 hE3) (fun r6 t7 l => ?_)
      obtain ⟨et, l⟩ := l
      subst et
      rw [e24, pcB_c mp (-1) hq.1 hq.2] at l
      refine pq_if (fun d => pq_if (fun f => pq_n (fun s8 e8 => nx s8 ?_ (fun p hp => ?_) (fun c hc => ?_) ?_)) (fun f => nx t7 ?_ (fun _ _ => rfl) (fun _ _ => rfl) rfl)) (fun d => pq_n (fun s14 e8 => nx s14 ?_ (fun p hp => ?_) (fun c hc => ?_) ?_))
      · rw [e8, x.2.2.2.1, q_eq]
        unfold ovN
        rw [if_neg (r1_n l d), if_pos (m10.symm.trans f)]
      · rw [e8, x.2.2.2.1, pI_1, if_neg (fun z => hp z.2)]
      · rw [e8, pI_o _ _ _ _ _ hc]
      · rw [e8]; rfl
      · unfold ovN
        rw [if_neg (r1_n l d), if_neg (fun z => f (m10.trans z))]
        exact m43
      · rw [e8, x.2.2.2.1, q_eq]
        unfold ovN
        rw [if_pos (r1_y l d)]
      · rw [e8, x.2.2.2.1, pI_1, if_neg (fun z => hp z.2)]
      · rw [e8, pI_o _ _ _ _ _ hc]
      · rw [e8]; rfl
/-- what neither cats nor melting touch -/
def Kn (o : Nat) (s0 s t0 t : Sg) : Prop := (∀ k, k < 8 → s.1 (26 + o) k = s0.1 (26 + o) k) ∧ s.1 (43 + o) = s0.1 (43 + o) ∧ (∀ p, p < 8 → t.1 1 p = t0.1 1 p) ∧ t.1 0 = t0.1 0
theorem kn_r {o : Nat} {s t : Sg} : Kn o s s t t := ⟨fun _ _ => rfl, rfl, fun _ _ => rfl, rfl⟩
theorem cats_r {R : Unit → Sg → Unit → Sg → Prop} {KC : Unit → Sg → Option (Unit × Sg)} (s0 t0 : Sg) (hK : ∀ s t, NowG 0 s t → Kn 0 s0 s t0 t → RQ (KC () s) (f_X12_nightGoes_b73 BIG 0 t) R) (m : Nat) : ∀ (m' i : Nat) (v : Int32) (s t : Sg), v.toInt = (i : Int) → i ≤ 4 → NowG 0 s t → Kn 0 s0 s t0 t → RQ (bd (f_X2_sendCats_25_b2 m v s) KC) (f_X12_nightGoes_b2 m' v t) R := by
  induction m with
  | zero =>
    intro m' i v s t _ _ _ _ a s' b t' e
    have e : (none : Option (Unit × Sg)) = some (a, s') := e
    cases e
  | succ m ih =>
    intro m' i v s t hv hi H K
    cases m' with
    | zero => exact rq_0
    | succ m' =>
      have e1 : (1 : Int32).toInt = 1 := rfl
      have av : (v + 1).toInt = v.toInt + 1 := i_addx v 1 (by omega)
      have e15 : s.1 25 15 = t.1 1 2 := H.1.1.1.2.2.1
      have b2 := H.1.1.2.1.2.2.1
      unfold f_X2_sendCats_25_b2 f_X12_nightGoes_b2
      rw [e15]
      refine rc_i (fun c => rq_iM (fun _ => rc_s (hK s t H K)) (fun z => absurd c z)) (fun c => rq_iM (fun z => absurd z c) (fun _ => ?_))
      have c := i_nle c
      have hi' : (i : Int) < (t.1 1 2).toInt := by omega
      have c4 : i < 4 := by
        have : (t.1 1 2).toInt ≤ 4 := b2.2
        omega
      have x := cx_x hv c4
      have pc := H.1.1.2.2.2.2.2.1 i hi'
      have p1 : s.1 35 i = t.1 1 (80 + 3 * i) := pc.1.1
      have p2 : s.1 36 i = t.1 1 (81 + 3 * i) := pc.1.2.1
      have p3 : s.1 37 i = t.1 1 (82 + 3 * i) := pc.1.2.2
      have q1 : 0 ≤ (s.1 35 i).toInt ∧ (s.1 35 i).toInt < (t.1 1 0).toInt := pc.2.1
      have q2 : 0 ≤ (s.1 36 i).toInt ∧ (s.1 36 i).toInt < (t.1 1 0).toInt := pc.2.2.1
      have b0 : (t.1 1 0).toInt ≤ 8 := H.1.1.2.1.1.2
      have gb := H.2.2.1.2.1 i hi'
      have nf : (s.1 35 i).toInt = ((s.1 35 i).toInt.toNat : Int) := by omega
      have nt : (s.1 36 i).toInt = ((s.1 36 i).toInt.toNat : Int) := by omega
      have f8 : (s.1 35 i).toInt.toNat < 8 := by omega
      have t8 : (s.1 36 i).toInt.toNat < 8 := by omega
      refine rc_c (fun _ => rc_c (fun _ => rq_cM (fun _ => rq_bM (hr_p _ t) (fun r23 t24 k => ?_))))
      obtain ⟨et, k⟩ := k
      subst et
      rw [x.1, ← p1] at k
      refine rq_cM (fun _ => ?_)
      have g0 := gS H f8
      rw [k, (hr_x nf f8).2.2, cl_h hv, cl_h nf, g0.2.2]
      refine rc_i (fun d => rq_iM (fun _ => ?_) (fun z => absurd d z)) (fun d => rq_iM (fun z => absurd z d) (fun _ => ih m' (i + 1) (v + 1) s t24 (by omega) (by omega) H K))
      refine rq_cM (fun _ => rq_cM (fun _ => ?_))
      rw [x.1, x.2.1, x.2.2, ← p1, ← p2, ← p3]
      refine rc_b (rq_b2 (carry_r H nf f8 nt t8 ?_ ?_ (s.1 37 i)) (fun r3 s4 r28 t29 w => ?_))
      · rw [p1]
        have := gb.2.1
        rw [this]
        decide
      · rw [p2]
        have := gb.2.2
        rw [this]
        decide
      · obtain ⟨w1, w2, w3, w4, w5⟩ := w
        exact ih m' (i + 1) (v + 1) s4 t29 (by omega) (by omega) w2 ⟨fun k hk => by rw [w3 26 (by decide) (by decide)]; exact K.1 k hk, by rw [w3 43 (by decide) (by decide)]; exact K.2.1, fun p hp => by rw [w4 p (by omega)]; exact K.2.2.1 p hp, by rw [w5]; exact K.2.2.2⟩
theorem melt_r {R : Unit → Sg → Unit → Sg → Prop} {KC : Unit → Sg → Option (Unit × Sg)} (s0 t0 : Sg) (hK : ∀ s t, NowG 0 s t → Kn 0 s0 s t0 t → RQ (KC () s) (f_X12_nightGoes_b157 BIG 0 (pI (pI t 0 25 0) 0 26 0)) R) (m : Nat) : ∀ (m' i : Nat) (v : Int32) (s t : Sg), v.toInt = (i : Int) → i ≤ 8 → NowG 0 s t → Kn 0 s0 s t0 t → RQ (bd (f_X2_meltSnow_25_b2 m v s) KC) (f_X12_nightGoes_b73 m' v t) R := by
  induction m with
  | zero =>
    intro m' i v s t _ _ _ _ a s' b t' e
    have e : (none : Option (Unit × Sg)) = some (a, s') := e
    cases e
  | succ m ih =>
    intro m' i v s t hv hi H K
    cases m' with
    | zero => exact rq_0
    | succ m' =>
      have e1 : (1 : Int32).toInt = 1 := rfl
      have av : (v + 1).toInt = v.toInt + 1 := i_addx v 1 (by omega)
      have e13 : s.1 25 13 = t.1 1 0 := e13_ H
      have b0 : (t.1 1 0).toInt ≤ 8 := H.1.1.2.1.1.2
      unfold f_X2_meltSnow_25_b2 f_X12_nightGoes_b73
      rw [e13]
      refine rc_i (fun c => rq_iM (fun _ => rc_s (hK s t H K)) (fun z => absurd c z)) (fun c => rq_iM (fun z => absurd z c) (fun _ => ?_))
      have c := i_nle c
      have hh : i < 8 := by omega
      have x := hr_x hv hh
      have g0 := gS H hh
      refine rc_c (fun _ => rq_bM (hr_p v t) (fun r15 t16 k => ?_))
      obtain ⟨et, k⟩ := k
      subst et
      refine rq_cM (fun _ => rq_cM (fun _ => rc_n (fun x2 e2 => rq_nM (fun x19 f19 => ?_))))
      have q1 : x2 = x19 := by rw [e2, f19, k, cl_h hv, x.1, x.2.2, g0.1, g0.2.2]
      subst q1
      have z0 : bt (t16.1 1 9) i = true → x2 = 0 := fun w => by
        have z := H.2.2.2 i hh w
        rw [f19, k, x.1, x.2.2, z.1, z.2.2]
        rfl
      refine rc_n (fun s3 e3 => rq_nM (fun t20 f20 => rc_n (fun s4 e4 => rq_nM (fun t21 f21 => rc_n (fun s5 e5 => ?_)))))
      have H3 : NowG 0 s3 t20 := by
        rw [e3, f20, k, cl_h hv, x.1, g0.1]
        exact nSalt H hh _ (fun w => by rw [(H.2.2.2 i hh w).1, z0 w]; rfl)
      have r20 : t20.1 1 9 = t16.1 1 9 := by rw [f20, k, x.1, pI_1, if_neg (fun z => by have := z.2; omega)]
      have g20 : t20.1 1 (18 + 3 * i) = t16.1 1 (18 + 3 * i) := by rw [f20, k, x.1, pI_1, if_neg (fun z => by have := z.2; omega)]
      have H4 : NowG 0 s4 t21 := by
        rw [e4, f21, k, cl_h hv, x.2.2, (gS H3 hh).2.2]
        exact nSnw H3 hh _ (fun w => by rw [r20] at w; rw [g20, (H.2.2.2 i hh w).2.2, z0 w]; rfl)
      have H5 : NowG 0 s5 (pI t21 1 8 ((t21.1 1 8) + x2)) := by
        rw [e5, (gF H4).2.2.2.2.2]
        exact nFld H4 12 8 _ (Or.inr (Or.inr (Or.inr (Or.inr ⟨rfl, rfl⟩))))
      refine ih m' (i + 1) (v + 1) s5 _ (by omega) (by omega) H5 ⟨fun k' hk => ?_, ?_, fun p hp => ?_, ?_⟩
      · rw [e5, pI_1, if_neg (fun z => by have := z.2; omega), e4, q_nc rfl, e3, q_nc rfl]
        exact K.1 k' hk
      · rw [e5, pI_o _ _ _ _ _ (by decide), e4, pI_o _ _ _ _ _ (by decide), e3, pI_o _ _ _ _ _ (by decide)]
        exact K.2.1
      · rw [pI_1, if_neg (fun z => by have := z.2; omega), f21, k, x.2.2, pI_1, if_neg (fun z => by have := z.2; omega), f20, k, x.1, pI_1, if_neg (fun z => by have := z.2; omega)]
        exact K.2.2.1 p hp
      · rw [pI_o _ _ _ _ _ (by decide), f21, pI_o _ _ _ _ _ (by decide), f20, pI_o _ _ _ _ _ (by decide)]
        exact K.2.2.2
def WarC (Q : Int) (s0 s : Sg) (i : Nat) : Prop := (∀ q : Nat, q < i → s.1 43 q = if bt (s0.1 26 5) q = true then s0.1 43 q else s0.1 43 q + 1) ∧ (∀ q : Nat, i ≤ q → s.1 43 q = s0.1 43 q) ∧ (∀ c, ¬ c = 43 → s.1 c = s0.1 c) ∧ s.2 = s0.2
theorem war_b (Q : Int) (hQ : 0 ≤ Q ∧ Q ≤ 8) (s0 : Sg) (h14 : (s0.1 25 14).toInt = Q) (m : Nat) : ∀ (i : Nat) (v : Int32) (s : Sg), v.toInt = (i : Int) → (i : Int) ≤ Q → WarC Q s0 s i → PQ (f_X2_countWar_25_b2 m v s) (fun _ s' => WarC Q s0 s' Q.toNat) := by
  induction m with
  | zero => intro i v s _ _ _ r s' e; cases e
  | succ m ih =>
    intro i v s hv hi W
    obtain ⟨W1, W2, W3, W4⟩ := W
    have e1 : (1 : Int32).toInt = 1 := rfl
    have av : (v + 1).toInt = v.toInt + 1 := i_addx v 1 (by omega)
    have e14 : s.1 25 14 = s0.1 25 14 := by rw [W3 25 (by decide)]
    have e5 : s.1 26 5 = s0.1 26 5 := by rw [W3 26 (by decide)]
    unfold f_X2_countWar_25_b2
    rw [e14]
    refine pq_if (fun c => pq_s ?_) (fun c => ?_)
    · have c := i_le c
      have z : Q.toNat = i := by omega
      rw [z]
      exact ⟨W1, W2, W3, W4⟩
    · have c := i_nle c
      unfold f_X11_has
      have nx : ∀ s9 : Sg, s9.1 43 i = (if bt (s0.1 26 5) i = true then s0.1 43 i else s0.1 43 i + 1) → (∀ q, ¬ q = i → s9.1 43 q = s.1 43 q) → (∀ c, ¬ c = 43 → s9.1 c = s.1 c) → s9.2 = s.2 → PQ (f_X2_countWar_25_b2 m (v + 1) s9) (fun _ s' => WarC Q s0 s' Q.toNat) := fun s9 w1 w2 w3 w4 => by
        refine ih (i + 1) (v + 1) s9 (by omega) (by omega) ⟨fun q hq => ?_, fun q hq => ?_, fun c hc => by rw [w3 c hc]; exact W3 c hc, w4.trans W4⟩
        · by_cases z : q = i
          · rw [z]; exact w1
          · rw [w2 q z]; exact W1 q (by omega)
        · rw [w2 q (by omega)]; exact W2 q (by omega)
      refine pq_b (P := fun r s' => s' = s ∧ Fl (bt (s0.1 26 5) i = true) r) ?_ (fun r1 s2 k => ?_)
      · rw [e5]
        exact pq_f0 (sh1_0 _ v hv (by omega))
      · obtain ⟨es, k⟩ := k
        subst es
        refine pq_if (fun d => pq_c (fun _ => pq_n (fun s4 e4 => nx s4 ?_ (fun q hq => ?_) (fun c hc => ?_) ?_))) (fun d => nx s2 ?_ (fun _ _ => rfl) (fun _ _ => rfl) rfl)
        · rw [e4, cl_h hv, q_eq, if_neg (r1_n k d), W2 i (Nat.le_refl _)]
        · rw [e4, cl_h hv, pI_1, if_neg (fun z => hq z.2)]
        · rw [e4, pI_o _ _ _ _ _ hc]
        · rw [e4]; rfl
        · rw [if_pos (r1_y k d)]
          exact W2 i (Nat.le_refl _)
/-- behind a night -/
def NtR (s t s' t' : Sg) : Prop := NowG 0 s' t' ∧ (s'.1 26 6 = if s.1 26 6 + 1 < 999 then s.1 26 6 + 1 else 999) ∧ t'.1 1 4 = t.1 1 4 + 1 ∧ (t'.1 0 25 = cntI (fun q => !bt (s.1 26 5) q && bt (s'.1 26 5) q) (t.1 1 1).toInt.toNat ∧ t'.1 0 26 = cntI (fun q => bt (s.1 26 5) q && !bt (s'.1 26 5) q) (t.1 1 1).toInt.toNat)
theorem night_f {s t s2 s9 t2 : Sg} {r5 : Int32} (H : NowG 0 s t) (hr : ∀ x, x < 32 → (bt r5 x = true ↔ ((x : Int) < (t.1 1 1).toInt ∧ pcB (t.1 1) (-1) x = true))) (hs2 : s2 = pI s 26 5 (if s.1 26 7 = 0 then s.1 26 5 ||| r5 else r5)) (W : WarC (t.1 1 1).toInt s2 s9 (t.1 1 1).toInt.toNat) (I : NgI (t.1 1) (pI (pI t 0 25 0) 0 26 0) (t.1 1 1).toInt.toNat t2) : NtR s t (pI (pI s9 26 6 (if s9.1 26 6 + 1 < 999 then s9.1 26 6 + 1 else 999)) 26 7 0) (pI (pI t2 1 4 (t2.1 1 4 + 1)) 1 10 0) := by
  obtain ⟨W1, W2, W3, W4⟩ := W
  obtain ⟨I1, I2, ⟨I3, I4, I5⟩, I6, I7⟩ := I
  obtain ⟨⟨P, G, O1, O2, O3⟩, ⟨R1, R2⟩, B, Z⟩ := H
  have bQ : 0 ≤ (t.1 1 1).toInt ∧ (t.1 1 1).toInt ≤ 8 := P.2.1.2.1
  unfold NtR
  generalize hM : t.1 1 = M at *
  have e7 : s.1 26 7 = M 10 := G 26 7 10 (Or.inr (Or.inr ⟨rfl, by omega⟩))
  -- the cells
  have cS : ∀ c, ¬ c = 26 → (pI (pI s9 26 6 (if s9.1 26 6 + 1 < 999 then s9.1 26 6 + 1 else 999)) 26 7 0).1 c = s9.1 c := fun c hc => by rw [pI_o _ _ _ _ _ hc, pI_o _ _ _ _ _ hc]
  have c2 : ∀ c, ¬ c = 26 → s2.1 c = s.1 c := fun c hc => by rw [hs2, pI_o _ _ _ _ _ hc]
  have c9 : ∀ c, ¬ c = 43 → ¬ c = 26 → s9.1 c = s.1 c := fun c h1 h2 => by rw [W3 c h1, c2 c h2]
  have c26 : ∀ k, ¬ k = 5 → s9.1 26 k = s.1 26 k := fun k hk => by rw [W3 26 (by decide), hs2, pI_1, if_neg (fun z => hk z.2)]
  have ov : s9.1 26 5 = if M 10 = 0 then s.1 26 5 ||| r5 else r5 := by rw [W3 26 (by decide), hs2, q_eq, e7]
  have tp : ∀ p, ¬ p = 4 → ¬ p = 10 → (pI (pI t2 1 4 (t2.1 1 4 + 1)) 1 10 0).1 1 p = t2.1 1 p := fun p h1 h2 => by rw [pI_1, if_neg (fun z => h2 z.2), pI_1, if_neg (fun z => h1 z.2)]
  have tq : ∀ p, ¬ p = 4 → ¬ p = 10 → (∀ q, q < (M 1).toInt.toNat → ¬ p = 43 + 5 * q ∧ ¬ p = 44 + 5 * q) → (pI (pI t2 1 4 (t2.1 1 4 + 1)) 1 10 0).1 1 p = M p := fun p h1 h2 h3 => by rw [tp p h1 h2, I2 p h3]
  have tpp : ∀ k, PlP k → (pI (pI t2 1 4 (t2.1 1 4 + 1)) 1 10 0).1 1 k = M k := fun k hk => tq k (plp_n (Or.inr (Or.inr (Or.inr (Or.inl (by decide))))) hk) (plp_n (Or.inr (Or.inr (Or.inr (Or.inr (Or.inl rfl))))) hk) (fun q hq => ⟨plp_n (Or.inr (Or.inr (Or.inl ⟨q, by omega, Or.inl rfl⟩))) hk, plp_n (Or.inr (Or.inr (Or.inl ⟨q, by omega, Or.inr rfl⟩))) hk⟩)
  have ov01 : ∀ q, q < 8 → ovN M q = 0 ∨ ovN M q = 1 := fun q hq => by
    unfold ovN
    by_cases a : pcB M (-1) q = true
    · rw [if_pos a]; exact Or.inr rfl
    · rw [if_neg a]
      by_cases b : M 10 = 1
      · rw [if_pos b]; exact Or.inl rfl
      · rw [if_neg b]; exact O1 q hq
  have ob : ∀ q, q < 8 → (bt (s.1 26 5) q = true ↔ M (43 + 5 * q) = 1) := fun q hq => by
    rw [O3 q (by omega)]
    exact ⟨fun w => (of_decide_eq_true w).2, fun w => decide_eq_true ⟨hq, w⟩⟩
  have nb : ∀ i, i < 32 → (bt (s9.1 26 5) i = true ↔ (i < (M 1).toInt.toNat ∧ ovN M i = 1)) := fun i hi => by
    rw [ov]
    unfold ovN
    rcases R1 with y | y
    · rw [if_pos y, bt_or]
      rw [if_neg (show ¬ M 10 = 1 by rw [y]; decide)]
      constructor
      · intro w
        rcases Bool.or_eq_true_iff.mp w with w | w
        · rw [O3 i hi] at w
          have w := of_decide_eq_true w
          by_cases z : (M 1).toInt ≤ (i : Int)
          · have := O2 i w.1 z
            rw [this] at w
            exact absurd w.2 (by decide)
          · refine ⟨by omega, ?_⟩
            by_cases a : pcB M (-1) i = true
            · rw [if_pos a]
            · rw [if_neg a]; exact w.2
        · have w := (hr i hi).mp w
          exact ⟨by omega, by rw [if_pos w.2]⟩
      · intro w
        by_cases a : pcB M (-1) i = true
        · exact Bool.or_eq_true_iff.mpr (Or.inr ((hr i hi).mpr ⟨by omega, a⟩))
        · have w2 := w.2
          rw [if_neg a] at w2
          refine Bool.or_eq_true_iff.mpr (Or.inl ?_)
          rw [O3 i hi]
          exact decide_eq_true ⟨by omega, w2⟩
    · rw [if_neg (show ¬ M 10 = 0 by rw [y]; decide), if_pos y]
      rw [hr i hi]
      constructor
      · intro w
        exact ⟨by omega, by rw [if_pos w.2]⟩
      · intro w
        by_cases a : pcB M (-1) i = true
        · exact ⟨by omega, a⟩
        · have w2 := w.2
          rw [if_neg a] at w2
          exact absurd w2 (by decide)
  refine ⟨⟨⟨pln_g P (fun k _ _ => by rw [cS 25 (by decide), c9 25 (by decide) (by decide)]) (fun i k i1 i2 _ => by rw [cS (24 + i) (by omega), c9 (24 + i) (by omega) (by omega)]) tpp, fun c k p g => ?_, fun q hq => ?_, fun q hq hQ => ?_, fun i hi => ?_⟩, ⟨?_, ?_⟩, plb_g B ⟨P.2.1.2.1.2, P.2.1.2.2.1.2, P.2.1.2.2.2.2⟩ tpp, fun x hx hb => ?_⟩, ?_, ?_, ?_, ?_⟩
  · have old := G c k p g
    have g' := g
    unfold Gp at g'
    by_cases w : c = 43
    · have k8 : k < 8 ∧ p = 44 + 5 * k := by omega
      rw [w, cS 43 (by decide), k8.2, tp _ (by omega) (by omega)]
      rw [w, k8.2] at old
      by_cases z : k < (M 1).toInt.toNat
      · rw [W1 k z, (I1 k z).2, c2 43 (by decide), old]
        have nbk := nb k (by omega)
        rw [W3 26 (by decide)] at nbk
        rcases ov01 k k8.1 with y | y
        · rw [if_neg (fun v => by have := (nbk.mp v).2; rw [y] at this; exact absurd this (by decide)), y]
          rfl
        · rw [if_pos (nbk.mpr ⟨z, y⟩), y]
          exact (add0 _).symm
      · rw [W2 k (by omega), c2 43 (by decide), I2 _ (fun q hq => by omega)]
        exact old
    · by_cases v : c = 26
      · rw [v] at old ⊢
        by_cases u : k = 7
        · have p10 : p = 10 := by omega
          rw [u, p10, q_eq, q_eq]
        · rw [pI_1, if_neg (fun z => u z.2), pI_1, if_neg (fun z => by have := z.2; omega), c26 k (by omega), tq p (by omega) (by omega) (fun q hq => by omega)]
          exact old
      · rw [cS c v, c9 c w v, tq p (by omega) (by omega) (fun q hq => by omega)]
        exact old
  · rw [tp _ (by omega) (by omega)]
    by_cases z : q < (M 1).toInt.toNat
    · rw [(I1 q z).1]; exact ov01 q hq
    · rw [I2 _ (fun q' hq' => by omega)]; exact O1 q hq
  · rw [tpp 1 (plp_0 (by decide))] at hQ
    rw [tp _ (by omega) (by omega), I2 _ (fun q' hq' => by omega)]
    exact O2 q hq hQ
  · have e5 : (pI (pI s9 26 6 (if s9.1 26 6 + 1 < 999 then s9.1 26 6 + 1 else 999)) 26 7 0).1 26 5 = s9.1 26 5 := by rw [q_ne rfl, q_ne rfl]
    show bt ((pI (pI s9 26 6 (if s9.1 26 6 + 1 < 999 then s9.1 26 6 + 1 else 999)) 26 7 0).1 26 5) i = _
    rw [e5]
    have nbi := nb i hi
    by_cases z : i < (M 1).toInt.toNat
    · rw [tp _ (by omega) (by omega), (I1 i z).1]
      cases hb : bt (s9.1 26 5) i with
      | true => exact (decide_eq_true ⟨by omega, (nbi.mp hb).2⟩).symm
      | false => exact (decide_eq_false (fun w => by rw [nbi.mpr ⟨z, w.2⟩] at hb; exact absurd hb (by decide))).symm
    · cases hb : bt (s9.1 26 5) i with
      | true => exact absurd (nbi.mp hb).1 z
      | false =>
        refine (decide_eq_false (fun w => ?_)).symm
        have w2 := w.2
        rw [tp _ (by omega) (by omega), I2 _ (fun q' hq' => by omega), O2 i w.1 (by omega)] at w2
        exact absurd w2 (by decide)
  · rw [q_eq]; exact Or.inl rfl
  · rw [q_nc rfl, q_nc rfl, I4 24 (by decide) (by decide), q_ne rfl, q_ne rfl]
    exact R2
  · rw [tpp 9 (plp_0 (by decide))] at hb
    rw [tq _ (by omega) (by omega) (fun q hq => by omega), tq _ (by omega) (by omega) (fun q hq => by omega), tq _ (by omega) (by omega) (fun q hq => by omega)]
    exact Z x hx hb
  · rw [q_ne rfl, q_eq, c26 6 (by decide)]
  · rw [q_ne rfl, q_eq, I2 4 (fun q hq => by omega)]
  · rw [q_nc rfl, q_nc rfl, I6]
    refine cnt_c _ (fun q hq => ?_)
    have e5 : (pI (pI s9 26 6 (if s9.1 26 6 + 1 < 999 then s9.1 26 6 + 1 else 999)) 26 7 0).1 26 5 = s9.1 26 5 := by rw [q_ne rfl, q_ne rfl]
    rw [e5]
    have a := ob q (by omega)
    have b := nb q (by omega)
    rcases O1 q (by omega) with y | y <;> rcases ov01 q (by omega) with v | v <;> rw [y, v]
    · have b' : ¬ bt (s9.1 26 5) q = true := fun z => by have := (b.mp z).2; rw [v] at this; exact absurd this (by decide)
      rw [Bool.eq_false_iff.mpr b', Bool.and_false]
      decide
    · have a' : ¬ bt (s.1 26 5) q = true := fun z => by have := a.mp z; rw [y] at this; exact absurd this (by decide)
      rw [Bool.eq_false_iff.mpr a', b.mpr ⟨hq, v⟩]
      decide
    · have b' : ¬ bt (s9.1 26 5) q = true := fun z => by have := (b.mp z).2; rw [v] at this; exact absurd this (by decide)
      rw [Bool.eq_false_iff.mpr b', Bool.and_false]
      decide
    · rw [a.mpr y, Bool.not_true, Bool.false_and]
      decide
  · rw [q_nc rfl, q_nc rfl, I7]
    refine cnt_c _ (fun q hq => ?_)
    have e5 : (pI (pI s9 26 6 (if s9.1 26 6 + 1 < 999 then s9.1 26 6 + 1 else 999)) 26 7 0).1 26 5 = s9.1 26 5 := by rw [q_ne rfl, q_ne rfl]
    rw [e5]
    have a := ob q (by omega)
    have b := nb q (by omega)
    rcases O1 q (by omega) with y | y <;> rcases ov01 q (by omega) with v | v <;> rw [y, v]
    · have a' : ¬ bt (s.1 26 5) q = true := fun z => by have := a.mp z; rw [y] at this; exact absurd this (by decide)
      rw [Bool.eq_false_iff.mpr a', Bool.false_and]
      decide
    · have a' : ¬ bt (s.1 26 5) q = true := fun z => by have := a.mp z; rw [y] at this; exact absurd this (by decide)
      rw [Bool.eq_false_iff.mpr a', Bool.false_and]
      decide
    · have b' : ¬ bt (s9.1 26 5) q = true := fun z => by have := (b.mp z).2; rw [v] at this; exact absurd this (by decide)
      rw [Bool.eq_false_iff.mpr b', a.mpr y]
      decide
    · rw [b.mpr ⟨hq, v⟩]
      show _ = (_ && false)
      rw [Bool.and_false]
      decide
theorem night_r {s t : Sg} (H : NowG 0 s t) : RQ (f_X2_passNight_25 s) (f_X12_nightGoes t) (fun _ s' _ t' => NtR s t s' t') := by
  unfold f_X2_passNight_25 f_X12_nightGoes f_X2_sendCats_25
  refine cats_r s t (fun s1 t1 H1 K1 => ?_) BIG BIG 0 0 s t rfl (by decide) H kn_r
  unfold f_X2_meltSnow_25
  refine melt_r s t (fun s3 t3 H3 K3 => ?_) BIG BIG 0 0 s1 t1 rfl (by decide) H1 K1
  refine rq_bC (peac_c H3.1.1 H3.2.2.1 H3.1.2.1 (-1)) (fun r5 s6 k => ?_)
  obtain ⟨es, k⟩ := k
  subst es
  have bQ : 0 ≤ (t3.1 1 1).toInt ∧ (t3.1 1 1).toInt ≤ 8 := H3.1.1.2.1.2.1
  have eQ : (s6.1 25 14).toInt = (t3.1 1 1).toInt := congrArg Int32.toInt H3.1.1.1.2.1
  have fin : ∀ t0 : Int32, t0 = (if s6.1 26 7 = 0 then s6.1 26 5 ||| r5 else r5) → RQ (f_X2_passNight_25_b35 t0 s6) (f_X12_nightGoes_b157 BIG 0 (pI (pI t3 0 25 0) 0 26 0)) (fun _ s' _ t' => NtR s t s' t') := fun t0 ht => by
    have m : PQ (f_X12_nightGoes_b157 BIG 0 (pI (pI t3 0 25 0) 0 26 0)) (fun _ t' => ∃ t2, NgI (t3.1 1) (pI (pI t3 0 25 0) 0 26 0) (t3.1 1 1).toInt.toNat t2 ∧ t' = pI (pI t2 1 4 (t2.1 1 4 + 1)) 1 10 0) := by
      refine ng_157 (t0 := pI (pI t3 0 25 0) 0 26 0) (by rw [pI_o _ _ _ _ _ (by decide), pI_o _ _ _ _ _ (by decide)]) (fun q hq => ⟨(pln_q H3.1.1 hq).1, (pln_q H3.1.1 hq).2.2.1⟩) (by rw [q_ne rfl, q_ne rfl]; exact H3.2.1.2) bQ BIG 0 0 _ rfl bQ.1 ⟨fun q hq => absurd hq (Nat.not_lt_zero _), fun p _ => by rw [q_nc rfl, q_nc rfl], ⟨fun _ _ _ => rfl, fun _ _ _ => rfl, rfl⟩, by rw [q_ne rfl, q_eq]; rfl, by rw [q_eq]; rfl⟩
    have c : PQ (f_X2_passNight_25_b35 t0 s6) (fun _ s' => ∃ s9, WarC (t3.1 1 1).toInt (pI s6 26 5 t0) s9 (t3.1 1 1).toInt.toNat ∧ s' = pI (pI s9 26 6 (if s9.1 26 6 + 1 < 999 then s9.1 26 6 + 1 else 999)) 26 7 0) := by
      unfold f_X2_passNight_25_b35 f_X2_countWar_25
      refine pq_b (war_b (t3.1 1 1).toInt bQ (pI s6 26 5 t0) (by rw [q_nc rfl]; exact eQ) BIG 0 0 _ rfl bQ.1 ⟨fun q hq => absurd hq (Nat.not_lt_zero _), fun _ _ => rfl, fun _ _ => rfl, rfl⟩) (fun _ s8 w => pq_n (fun s9 e9 => pq_s ⟨s8, w, ?_⟩))
      rw [e9]
    refine rq_pp c m (fun _ s' _ t' x y => ?_)
    obtain ⟨s9, x1, x2⟩ := x
    obtain ⟨t2, y1, y2⟩ := y
    have f := night_f (s2 := pI s6 26 5 t0) H3 k (by rw [ht]) x1 y1
    rw [← x2, ← y2] at f
    obtain ⟨f1, f2, f3, f4, f5⟩ := f
    refine ⟨f1, ?_, ?_, ?_, ?_⟩
    · rw [f2, K3.1 6 (by decide)]
    · rw [f3, K3.2.2.1 4 (by decide)]
    · rw [f4, K3.1 5 (by decide), K3.2.2.1 1 (by decide)]
    · rw [f5, K3.1 5 (by decide), K3.2.2.1 1 (by decide)]
  refine rq_iC (fun d => fin _ (by rw [if_pos d])) (fun d => fin _ (by rw [if_neg d]))
theorem cats_rz {R : Unit → Sg → Unit → Sg → Prop} {KC : Unit → Sg → Option (Unit × Sg)} (s0 t0 : Sg) (hK : ∀ s t, NowG 27 s t → Kn 27 s0 s t0 t → RQ (KC () s) (f_X12_nightGoes_b73 BIG 0 t) R) (m : Nat) : ∀ (m' i : Nat) (v : Int32) (s t : Sg), v.toInt = (i : Int) → i ≤ 4 → NowG 27 s t → Kn 27 s0 s t0 t → RQ (bd (f_X2_sendCats_25_53_b2 m v s) KC) (f_X12_nightGoes_b2 m' v t) R := by
  induction m with
  | zero =>
    intro m' i v s t _ _ _ _ a s' b t' e
    have e : (none : Option (Unit × Sg)) = some (a, s') := e
    cases e
  | succ m ih =>
    intro m' i v s t hv hi H K
    cases m' with
    | zero => exact rq_0
    | succ m' =>
      have e1 : (1 : Int32).toInt = 1 := rfl
      have av : (v + 1).toInt = v.toInt + 1 := i_addx v 1 (by omega)
      have e15 : s.1 25 15 = t.1 1 2 := H.1.1.1.2.2.1
      have b2 := H.1.1.2.1.2.2.1
      unfold f_X2_sendCats_25_53_b2 f_X12_nightGoes_b2
      rw [e15]
      refine rc_i (fun c => rq_iM (fun _ => rc_s (hK s t H K)) (fun z => absurd c z)) (fun c => rq_iM (fun z => absurd z c) (fun _ => ?_))
      have c := i_nle c
      have hi' : (i : Int) < (t.1 1 2).toInt := by omega
      have c4 : i < 4 := by
        have : (t.1 1 2).toInt ≤ 4 := b2.2
        omega
      have x := cx_x hv c4
      have pc := H.1.1.2.2.2.2.2.1 i hi'
      have p1 : s.1 35 i = t.1 1 (80 + 3 * i) := pc.1.1
      have p2 : s.1 36 i = t.1 1 (81 + 3 * i) := pc.1.2.1
      have p3 : s.1 37 i = t.1 1 (82 + 3 * i) := pc.1.2.2
      have q1 : 0 ≤ (s.1 35 i).toInt ∧ (s.1 35 i).toInt < (t.1 1 0).toInt := pc.2.1
      have q2 : 0 ≤ (s.1 36 i).toInt ∧ (s.1 36 i).toInt < (t.1 1 0).toInt := pc.2.2.1
      have b0 : (t.1 1 0).toInt ≤ 8 := H.1.1.2.1.1.2
      have gb := H.2.2.1.2.1 i hi'
      have nf : (s.1 35 i).toInt = ((s.1 35 i).toInt.toNat : Int) := by omega
      have nt : (s.1 36 i).toInt = ((s.1 36 i).toInt.toNat : Int) := by omega
      have f8 : (s.1 35 i).toInt.toNat < 8 := by omega
      have t8 : (s.1 36 i).toInt.toNat < 8 := by omega
      refine rc_c (fun _ => rc_c (fun _ => rq_cM (fun _ => rq_bM (hr_p _ t) (fun r23 t24 k => ?_))))
      obtain ⟨et, k⟩ := k
      subst et
      rw [x.1, ← p1] at k
      refine rq_cM (fun _ => ?_)
      have g0 := gSz H f8
      rw [k, (hr_x nf f8).2.2, cl_h hv, cl_h nf, g0.2.2]
      refine rc_i (fun d => rq_iM (fun _ => ?_) (fun z => absurd d z)) (fun d => rq_iM (fun z => absurd z d) (fun _ => ih m' (i + 1) (v + 1) s t24 (by omega) (by omega) H K))
      refine rq_cM (fun _ => rq_cM (fun _ => ?_))
      rw [x.1, x.2.1, x.2.2, ← p1, ← p2, ← p3]
      refine rc_b (rq_b2 (carry_rz H nf f8 nt t8 ?_ ?_ (s.1 37 i)) (fun r3 s4 r28 t29 w => ?_))
      · rw [p1]
        have := gb.2.1
        rw [this]
        decide
      · rw [p2]
        have := gb.2.2
        rw [this]
        decide
      · obtain ⟨w1, w2, w3, w4, w5⟩ := w
        exact ih m' (i + 1) (v + 1) s4 t29 (by omega) (by omega) w2 ⟨fun k hk => by rw [w3 53 (by decide) (by decide)]; exact K.1 k hk, by rw [w3 70 (by decide) (by decide)]; exact K.2.1, fun p hp => by rw [w4 p (by omega)]; exact K.2.2.1 p hp, by rw [w5]; exact K.2.2.2⟩
theorem melt_rz {R : Unit → Sg → Unit → Sg → Prop} {KC : Unit → Sg → Option (Unit × Sg)} (s0 t0 : Sg) (hK : ∀ s t, NowG 27 s t → Kn 27 s0 s t0 t → RQ (KC () s) (f_X12_nightGoes_b157 BIG 0 (pI (pI t 0 25 0) 0 26 0)) R) (m : Nat) : ∀ (m' i : Nat) (v : Int32) (s t : Sg), v.toInt = (i : Int) → i ≤ 8 → NowG 27 s t → Kn 27 s0 s t0 t → RQ (bd (f_X2_meltSnow_25_53_b2 m v s) KC) (f_X12_nightGoes_b73 m' v t) R := by
  induction m with
  | zero =>
    intro m' i v s t _ _ _ _ a s' b t' e
    have e : (none : Option (Unit × Sg)) = some (a, s') := e
    cases e
  | succ m ih =>
    intro m' i v s t hv hi H K
    cases m' with
    | zero => exact rq_0
    | succ m' =>
      have e1 : (1 : Int32).toInt = 1 := rfl
      have av : (v + 1).toInt = v.toInt + 1 := i_addx v 1 (by omega)
      have e13 : s.1 25 13 = t.1 1 0 := e13_ H
      have b0 : (t.1 1 0).toInt ≤ 8 := H.1.1.2.1.1.2
      unfold f_X2_meltSnow_25_53_b2 f_X12_nightGoes_b73
      rw [e13]
      refine rc_i (fun c => rq_iM (fun _ => rc_s (hK s t H K)) (fun z => absurd c z)) (fun c => rq_iM (fun z => absurd z c) (fun _ => ?_))
      have c := i_nle c
      have hh : i < 8 := by omega
      have x := hr_x hv hh
      have g0 := gSz H hh
      refine rc_c (fun _ => rq_bM (hr_p v t) (fun r15 t16 k => ?_))
      obtain ⟨et, k⟩ := k
      subst et
      refine rq_cM (fun _ => rq_cM (fun _ => rc_n (fun x2 e2 => rq_nM (fun x19 f19 => ?_))))
      have q1 : x2 = x19 := by rw [e2, f19, k, cl_h hv, x.1, x.2.2, g0.1, g0.2.2]
      subst q1
      have z0 : bt (t16.1 1 9) i = true → x2 = 0 := fun w => by
        have z := H.2.2.2 i hh w
        rw [f19, k, x.1, x.2.2, z.1, z.2.2]
        rfl
      refine rc_n (fun s3 e3 => rq_nM (fun t20 f20 => rc_n (fun s4 e4 => rq_nM (fun t21 f21 => rc_n (fun s5 e5 => ?_)))))
      have H3 : NowG 27 s3 t20 := by
        rw [e3, f20, k, cl_h hv, x.1, g0.1]
        exact nSaltz H hh _ (fun w => by rw [(H.2.2.2 i hh w).1, z0 w]; rfl)
      have r20 : t20.1 1 9 = t16.1 1 9 := by rw [f20, k, x.1, pI_1, if_neg (fun z => by have := z.2; omega)]
      have g20 : t20.1 1 (18 + 3 * i) = t16.1 1 (18 + 3 * i) := by rw [f20, k, x.1, pI_1, if_neg (fun z => by have := z.2; omega)]
      have H4 : NowG 27 s4 t21 := by
        rw [e4, f21, k, cl_h hv, x.2.2, (gSz H3 hh).2.2]
        exact nSnwz H3 hh _ (fun w => by rw [r20] at w; rw [g20, (H.2.2.2 i hh w).2.2, z0 w]; rfl)
      have H5 : NowG 27 s5 (pI t21 1 8 ((t21.1 1 8) + x2)) := by
        rw [e5, (gFz H4).2.2.2.2.2]
        exact nFldz H4 12 8 _ (Or.inr (Or.inr (Or.inr (Or.inr ⟨rfl, rfl⟩))))
      refine ih m' (i + 1) (v + 1) s5 _ (by omega) (by omega) H5 ⟨fun k' hk => ?_, ?_, fun p hp => ?_, ?_⟩
      · rw [e5, pI_1, if_neg (fun z => by have := z.2; omega), e4, q_nc rfl, e3, q_nc rfl]
        exact K.1 k' hk
      · rw [e5, pI_o _ _ _ _ _ (by decide), e4, pI_o _ _ _ _ _ (by decide), e3, pI_o _ _ _ _ _ (by decide)]
        exact K.2.1
      · rw [pI_1, if_neg (fun z => by have := z.2; omega), f21, k, x.2.2, pI_1, if_neg (fun z => by have := z.2; omega), f20, k, x.1, pI_1, if_neg (fun z => by have := z.2; omega)]
        exact K.2.2.1 p hp
      · rw [pI_o _ _ _ _ _ (by decide), f21, pI_o _ _ _ _ _ (by decide), f20, pI_o _ _ _ _ _ (by decide)]
        exact K.2.2.2
def WarCz (Q : Int) (s0 s : Sg) (i : Nat) : Prop := (∀ q : Nat, q < i → s.1 70 q = if bt (s0.1 53 5) q = true then s0.1 70 q else s0.1 70 q + 1) ∧ (∀ q : Nat, i ≤ q → s.1 70 q = s0.1 70 q) ∧ (∀ c, ¬ c = 70 → s.1 c = s0.1 c) ∧ s.2 = s0.2
theorem war_bz (Q : Int) (hQ : 0 ≤ Q ∧ Q ≤ 8) (s0 : Sg) (h14 : (s0.1 25 14).toInt = Q) (m : Nat) : ∀ (i : Nat) (v : Int32) (s : Sg), v.toInt = (i : Int) → (i : Int) ≤ Q → WarCz Q s0 s i → PQ (f_X2_countWar_25_53_b2 m v s) (fun _ s' => WarCz Q s0 s' Q.toNat) := by
  induction m with
  | zero => intro i v s _ _ _ r s' e; cases e
  | succ m ih =>
    intro i v s hv hi W
    obtain ⟨W1, W2, W3, W4⟩ := W
    have e1 : (1 : Int32).toInt = 1 := rfl
    have av : (v + 1).toInt = v.toInt + 1 := i_addx v 1 (by omega)
    have e14 : s.1 25 14 = s0.1 25 14 := by rw [W3 25 (by decide)]
    have e5 : s.1 53 5 = s0.1 53 5 := by rw [W3 53 (by decide)]
    unfold f_X2_countWar_25_53_b2
    rw [e14]
    refine pq_if (fun c => pq_s ?_) (fun c => ?_)
    · have c := i_le c
      have z : Q.toNat = i := by omega
      rw [z]
      exact ⟨W1, W2, W3, W4⟩
    · have c := i_nle c
      unfold f_X11_has
      have nx : ∀ s9 : Sg, s9.1 70 i = (if bt (s0.1 53 5) i = true then s0.1 70 i else s0.1 70 i + 1) → (∀ q, ¬ q = i → s9.1 70 q = s.1 70 q) → (∀ c, ¬ c = 70 → s9.1 c = s.1 c) → s9.2 = s.2 → PQ (f_X2_countWar_25_53_b2 m (v + 1) s9) (fun _ s' => WarCz Q s0 s' Q.toNat) := fun s9 w1 w2 w3 w4 => by
        refine ih (i + 1) (v + 1) s9 (by omega) (by omega) ⟨fun q hq => ?_, fun q hq => ?_, fun c hc => by rw [w3 c hc]; exact W3 c hc, w4.trans W4⟩
        · by_cases z : q = i
          · rw [z]; exact w1
          · rw [w2 q z]; exact W1 q (by omega)
        · rw [w2 q (by omega)]; exact W2 q (by omega)
      refine pq_b (P := fun r s' => s' = s ∧ Fl (bt (s0.1 53 5) i = true) r) ?_ (fun r1 s2 k => ?_)
      · rw [e5]
        exact pq_f0 (sh1_0 _ v hv (by omega))
      · obtain ⟨es, k⟩ := k
        subst es
        refine pq_if (fun d => pq_c (fun _ => pq_n (fun s4 e4 => nx s4 ?_ (fun q hq => ?_) (fun c hc => ?_) ?_))) (fun d => nx s2 ?_ (fun _ _ => rfl) (fun _ _ => rfl) rfl)
        · rw [e4, cl_h hv, q_eq, if_neg (r1_n k d), W2 i (Nat.le_refl _)]
        · rw [e4, cl_h hv, pI_1, if_neg (fun z => hq z.2)]
        · rw [e4, pI_o _ _ _ _ _ hc]
        · rw [e4]; rfl
        · rw [if_pos (r1_y k d)]
          exact W2 i (Nat.le_refl _)
/-- behind a night -/
def NtRz (s t s' t' : Sg) : Prop := NowG 27 s' t' ∧ (s'.1 53 6 = if s.1 53 6 + 1 < 999 then s.1 53 6 + 1 else 999) ∧ t'.1 1 4 = t.1 1 4 + 1 ∧ (t'.1 0 25 = cntI (fun q => !bt (s.1 53 5) q && bt (s'.1 53 5) q) (t.1 1 1).toInt.toNat ∧ t'.1 0 26 = cntI (fun q => bt (s.1 53 5) q && !bt (s'.1 53 5) q) (t.1 1 1).toInt.toNat)
theorem night_fz {s t s2 s9 t2 : Sg} {r5 : Int32} (H : NowG 27 s t) (hr : ∀ x, x < 32 → (bt r5 x = true ↔ ((x : Int) < (t.1 1 1).toInt ∧ pcB (t.1 1) (-1) x = true))) (hs2 : s2 = pI s 53 5 (if s.1 53 7 = 0 then s.1 53 5 ||| r5 else r5)) (W : WarCz (t.1 1 1).toInt s2 s9 (t.1 1 1).toInt.toNat) (I : NgI (t.1 1) (pI (pI t 0 25 0) 0 26 0) (t.1 1 1).toInt.toNat t2) : NtRz s t (pI (pI s9 53 6 (if s9.1 53 6 + 1 < 999 then s9.1 53 6 + 1 else 999)) 53 7 0) (pI (pI t2 1 4 (t2.1 1 4 + 1)) 1 10 0) := by
  obtain ⟨W1, W2, W3, W4⟩ := W
  obtain ⟨I1, I2, ⟨I3, I4, I5⟩, I6, I7⟩ := I
  obtain ⟨⟨P, G, O1, O2, O3⟩, ⟨R1, R2⟩, B, Z⟩ := H
  have bQ : 0 ≤ (t.1 1 1).toInt ∧ (t.1 1 1).toInt ≤ 8 := P.2.1.2.1
  unfold NtRz
  generalize hM : t.1 1 = M at *
  have e7 : s.1 53 7 = M 10 := G 53 7 10 (Or.inr (Or.inr ⟨rfl, by omega⟩))
  -- the cells
  have cS : ∀ c, ¬ c = 53 → (pI (pI s9 53 6 (if s9.1 53 6 + 1 < 999 then s9.1 53 6 + 1 else 999)) 53 7 0).1 c = s9.1 c := fun c hc => by rw [pI_o _ _ _ _ _ hc, pI_o _ _ _ _ _ hc]
  have c2 : ∀ c, ¬ c = 53 → s2.1 c = s.1 c := fun c hc => by rw [hs2, pI_o _ _ _ _ _ hc]
  have c9 : ∀ c, ¬ c = 70 → ¬ c = 53 → s9.1 c = s.1 c := fun c h1 h2 => by rw [W3 c h1, c2 c h2]
  have c26 : ∀ k, ¬ k = 5 → s9.1 53 k = s.1 53 k := fun k hk => by rw [W3 53 (by decide), hs2, pI_1, if_neg (fun z => hk z.2)]
  have ov : s9.1 53 5 = if M 10 = 0 then s.1 53 5 ||| r5 else r5 := by rw [W3 53 (by decide), hs2, q_eq, e7]
  have tp : ∀ p, ¬ p = 4 → ¬ p = 10 → (pI (pI t2 1 4 (t2.1 1 4 + 1)) 1 10 0).1 1 p = t2.1 1 p := fun p h1 h2 => by rw [pI_1, if_neg (fun z => h2 z.2), pI_1, if_neg (fun z => h1 z.2)]
  have tq : ∀ p, ¬ p = 4 → ¬ p = 10 → (∀ q, q < (M 1).toInt.toNat → ¬ p = 43 + 5 * q ∧ ¬ p = 44 + 5 * q) → (pI (pI t2 1 4 (t2.1 1 4 + 1)) 1 10 0).1 1 p = M p := fun p h1 h2 h3 => by rw [tp p h1 h2, I2 p h3]
  have tpp : ∀ k, PlP k → (pI (pI t2 1 4 (t2.1 1 4 + 1)) 1 10 0).1 1 k = M k := fun k hk => tq k (plp_n (Or.inr (Or.inr (Or.inr (Or.inl (by decide))))) hk) (plp_n (Or.inr (Or.inr (Or.inr (Or.inr (Or.inl rfl))))) hk) (fun q hq => ⟨plp_n (Or.inr (Or.inr (Or.inl ⟨q, by omega, Or.inl rfl⟩))) hk, plp_n (Or.inr (Or.inr (Or.inl ⟨q, by omega, Or.inr rfl⟩))) hk⟩)
  have ov01 : ∀ q, q < 8 → ovN M q = 0 ∨ ovN M q = 1 := fun q hq => by
    unfold ovN
    by_cases a : pcB M (-1) q = true
    · rw [if_pos a]; exact Or.inr rfl
    · rw [if_neg a]
      by_cases b : M 10 = 1
      · rw [if_pos b]; exact Or.inl rfl
      · rw [if_neg b]; exact O1 q hq
  have ob : ∀ q, q < 8 → (bt (s.1 53 5) q = true ↔ M (43 + 5 * q) = 1) := fun q hq => by
    rw [O3 q (by omega)]
    exact ⟨fun w => (of_decide_eq_true w).2, fun w => decide_eq_true ⟨hq, w⟩⟩
  have nb : ∀ i, i < 32 → (bt (s9.1 53 5) i = true ↔ (i < (M 1).toInt.toNat ∧ ovN M i = 1)) := fun i hi => by
    rw [ov]
    unfold ovN
    rcases R1 with y | y
    · rw [if_pos y, bt_or]
      rw [if_neg (show ¬ M 10 = 1 by rw [y]; decide)]
      constructor
      · intro w
        rcases Bool.or_eq_true_iff.mp w with w | w
        · rw [O3 i hi] at w
          have w := of_decide_eq_true w
          by_cases z : (M 1).toInt ≤ (i : Int)
          · have := O2 i w.1 z
            rw [this] at w
            exact absurd w.2 (by decide)
          · refine ⟨by omega, ?_⟩
            by_cases a : pcB M (-1) i = true
            · rw [if_pos a]
            · rw [if_neg a]; exact w.2
        · have w := (hr i hi).mp w
          exact ⟨by omega, by rw [if_pos w.2]⟩
      · intro w
        by_cases a : pcB M (-1) i = true
        · exact Bool.or_eq_true_iff.mpr (Or.inr ((hr i hi).mpr ⟨by omega, a⟩))
        · have w2 := w.2
          rw [if_neg a] at w2
          refine Bool.or_eq_true_iff.mpr (Or.inl ?_)
          rw [O3 i hi]
          exact decide_eq_true ⟨by omega, w2⟩
    · rw [if_neg (show ¬ M 10 = 0 by rw [y]; decide), if_pos y]
      rw [hr i hi]
      constructor
      · intro w
        exact ⟨by omega, by rw [if_pos w.2]⟩
      · intro w
        by_cases a : pcB M (-1) i = true
        · exact ⟨by omega, a⟩
        · have w2 := w.2
          rw [if_neg a] at w2
          exact absurd w2 (by decide)
  refine ⟨⟨⟨pln_g P (fun k _ _ => by rw [cS 25 (by decide), c9 25 (by decide) (by decide)]) (fun i k i1 i2 _ => by rw [cS (24 + i) (by omega), c9 (24 + i) (by omega) (by omega)]) tpp, fun c k p g => ?_, fun q hq => ?_, fun q hq hQ => ?_, fun i hi => ?_⟩, ⟨?_, ?_⟩, plb_g B ⟨P.2.1.2.1.2, P.2.1.2.2.1.2, P.2.1.2.2.2.2⟩ tpp, fun x hx hb => ?_⟩, ?_, ?_, ?_, ?_⟩
  · have old := G c k p g
    have g' := g
    unfold Gp at g'
    by_cases w : c = 70
    · have k8 : k < 8 ∧ p = 44 + 5 * k := by omega
      rw [w, cS 70 (by decide), k8.2, tp _ (by omega) (by omega)]
      rw [w, k8.2] at old
      by_cases z : k < (M 1).toInt.toNat
      · rw [W1 k z, (I1 k z).2, c2 70 (by decide), old]
        have nbk := nb k (by omega)
        rw [W3 53 (by decide)] at nbk
        rcases ov01 k k8.1 with y | y
        · rw [if_neg (fun v => by have := (nbk.mp v).2; rw [y] at this; exact absurd this (by decide)), y]
          rfl
        · rw [if_pos (nbk.mpr ⟨z, y⟩), y]
          exact (add0 _).symm
      · rw [W2 k (by omega), c2 70 (by decide), I2 _ (fun q hq => by omega)]
        exact old
    · by_cases v : c = 53
      · rw [v] at old ⊢
        by_cases u : k = 7
        · have p10 : p = 10 := by omega
          rw [u, p10, q_eq, q_eq]
        · rw [pI_1, if_neg (fun z => u z.2), pI_1, if_neg (fun z => by have := z.2; omega), c26 k (by omega), tq p (by omega) (by omega) (fun q hq => by omega)]
          exact old
      · rw [cS c v, c9 c w v, tq p (by omega) (by omega) (fun q hq => by omega)]
        exact old
  · rw [tp _ (by omega) (by omega)]
    by_cases z : q < (M 1).toInt.toNat
    · rw [(I1 q z).1]; exact ov01 q hq
    · rw [I2 _ (fun q' hq' => by omega)]; exact O1 q hq
  · rw [tpp 1 (plp_0 (by decide))] at hQ
    rw [tp _ (by omega) (by omega), I2 _ (fun q' hq' => by omega)]
    exact O2 q hq hQ
  · have e5 : (pI (pI s9 53 6 (if s9.1 53 6 + 1 < 999 then s9.1 53 6 + 1 else 999)) 53 7 0).1 53 5 = s9.1 53 5 := by rw [q_ne rfl, q_ne rfl]
    show bt ((pI (pI s9 53 6 (if s9.1 53 6 + 1 < 999 then s9.1 53 6 + 1 else 999)) 53 7 0).1 53 5) i = _
    rw [e5]
    have nbi := nb i hi
    by_cases z : i < (M 1).toInt.toNat
    · rw [tp _ (by omega) (by omega), (I1 i z).1]
      cases hb : bt (s9.1 53 5) i with
      | true => exact (decide_eq_true ⟨by omega, (nbi.mp hb).2⟩).symm
      | false => exact (decide_eq_false (fun w => by rw [nbi.mpr ⟨z, w.2⟩] at hb; exact absurd hb (by decide))).symm
    · cases hb : bt (s9.1 53 5) i with
      | true => exact absurd (nbi.mp hb).1 z
      | false =>
        refine (decide_eq_false (fun w => ?_)).symm
        have w2 := w.2
        rw [tp _ (by omega) (by omega), I2 _ (fun q' hq' => by omega), O2 i w.1 (by omega)] at w2
        exact absurd w2 (by decide)
  · rw [q_eq]; exact Or.inl rfl
  · rw [q_nc rfl, q_nc rfl, I4 24 (by decide) (by decide), q_ne rfl, q_ne rfl]
    exact R2
  · rw [tpp 9 (plp_0 (by decide))] at hb
    rw [tq _ (by omega) (by omega) (fun q hq => by omega), tq _ (by omega) (by omega) (fun q hq => by omega), tq _ (by omega) (by omega) (fun q hq => by omega)]
    exact Z x hx hb
  · rw [q_ne rfl, q_eq, c26 6 (by decide)]
  · rw [q_ne rfl, q_eq, I2 4 (fun q hq => by omega)]
  · rw [q_nc rfl, q_nc rfl, I6]
    refine cnt_c _ (fun q hq => ?_)
    have e5 : (pI (pI s9 53 6 (if s9.1 53 6 + 1 < 999 then s9.1 53 6 + 1 else 999)) 53 7 0).1 53 5 = s9.1 53 5 := by rw [q_ne rfl, q_ne rfl]
    rw [e5]
    have a := ob q (by omega)
    have b := nb q (by omega)
    rcases O1 q (by omega) with y | y <;> rcases ov01 q (by omega) with v | v <;> rw [y, v]
    · have b' : ¬ bt (s9.1 53 5) q = true := fun z => by have := (b.mp z).2; rw [v] at this; exact absurd this (by decide)
      rw [Bool.eq_false_iff.mpr b', Bool.and_false]
      decide
    · have a' : ¬ bt (s.1 53 5) q = true := fun z => by have := a.mp z; rw [y] at this; exact absurd this (by decide)
      rw [Bool.eq_false_iff.mpr a', b.mpr ⟨hq, v⟩]
      decide
    · have b' : ¬ bt (s9.1 53 5) q = true := fun z => by have := (b.mp z).2; rw [v] at this; exact absurd this (by decide)
      rw [Bool.eq_false_iff.mpr b', Bool.and_false]
      decide
    · rw [a.mpr y, Bool.not_true, Bool.false_and]
      decide
  · rw [q_nc rfl, q_nc rfl, I7]
    refine cnt_c _ (fun q hq => ?_)
    have e5 : (pI (pI s9 53 6 (if s9.1 53 6 + 1 < 999 then s9.1 53 6 + 1 else 999)) 53 7 0).1 53 5 = s9.1 53 5 := by rw [q_ne rfl, q_ne rfl]
    rw [e5]
    have a := ob q (by omega)
    have b := nb q (by omega)
    rcases O1 q (by omega) with y | y <;> rcases ov01 q (by omega) with v | v <;> rw [y, v]
    · have a' : ¬ bt (s.1 53 5) q = true := fun z => by have := a.mp z; rw [y] at this; exact absurd this (by decide)
      rw [Bool.eq_false_iff.mpr a', Bool.false_and]
      decide
    · have a' : ¬ bt (s.1 53 5) q = true := fun z => by have := a.mp z; rw [y] at this; exact absurd this (by decide)
      rw [Bool.eq_false_iff.mpr a', Bool.false_and]
      decide
    · have b' : ¬ bt (s9.1 53 5) q = true := fun z => by have := (b.mp z).2; rw [v] at this; exact absurd this (by decide)
      rw [Bool.eq_false_iff.mpr b', a.mpr y]
      decide
    · rw [b.mpr ⟨hq, v⟩]
      show _ = (_ && false)
      rw [Bool.and_false]
      decide
theorem night_rz {s t : Sg} (H : NowG 27 s t) : RQ (f_X2_passNight_25_53 s) (f_X12_nightGoes t) (fun _ s' _ t' => NtRz s t s' t') := by
  unfold f_X2_passNight_25_53 f_X12_nightGoes f_X2_sendCats_25_53
  refine cats_rz s t (fun s1 t1 H1 K1 => ?_) BIG BIG 0 0 s t rfl (by decide) H kn_r
  unfold f_X2_meltSnow_25_53
  refine melt_rz s t (fun s3 t3 H3 K3 => ?_) BIG BIG 0 0 s1 t1 rfl (by decide) H1 K1
  refine rq_bC (peac_cz H3.1.1 H3.2.2.1 H3.1.2.1 (-1)) (fun r5 s6 k => ?_)
  obtain ⟨es, k⟩ := k
  subst es
  have bQ : 0 ≤ (t3.1 1 1).toInt ∧ (t3.1 1 1).toInt ≤ 8 := H3.1.1.2.1.2.1
  have eQ : (s6.1 25 14).toInt = (t3.1 1 1).toInt := congrArg Int32.toInt H3.1.1.1.2.1
  have fin : ∀ t0 : Int32, t0 = (if s6.1 53 7 = 0 then s6.1 53 5 ||| r5 else r5) → RQ (f_X2_passNight_25_53_b35 t0 s6) (f_X12_nightGoes_b157 BIG 0 (pI (pI t3 0 25 0) 0 26 0)) (fun _ s' _ t' => NtRz s t s' t') := fun t0 ht => by
    have m : PQ (f_X12_nightGoes_b157 BIG 0 (pI (pI t3 0 25 0) 0 26 0)) (fun _ t' => ∃ t2, NgI (t3.1 1) (pI (pI t3 0 25 0) 0 26 0) (t3.1 1 1).toInt.toNat t2 ∧ t' = pI (pI t2 1 4 (t2.1 1 4 + 1)) 1 10 0) := by
      refine ng_157 (t0 := pI (pI t3 0 25 0) 0 26 0) (by rw [pI_o _ _ _ _ _ (by decide), pI_o _ _ _ _ _ (by decide)]) (fun q hq => ⟨(pln_q H3.1.1 hq).1, (pln_q H3.1.1 hq).2.2.1⟩) (by rw [q_ne rfl, q_ne rfl]; exact H3.2.1.2) bQ BIG 0 0 _ rfl bQ.1 ⟨fun q hq => absurd hq (Nat.not_lt_zero _), fun p _ => by rw [q_nc rfl, q_nc rfl], ⟨fun _ _ _ => rfl, fun _ _ _ => rfl, rfl⟩, by rw [q_ne rfl, q_eq]; rfl, by rw [q_eq]; rfl⟩
    have c : PQ (f_X2_passNight_25_53_b35 t0 s6) (fun _ s' => ∃ s9, WarCz (t3.1 1 1).toInt (pI s6 53 5 t0) s9 (t3.1 1 1).toInt.toNat ∧ s' = pI (pI s9 53 6 (if s9.1 53 6 + 1 < 999 then s9.1 53 6 + 1 else 999)) 53 7 0) := by
      unfold f_X2_passNight_25_53_b35 f_X2_countWar_25_53
      refine pq_b (war_bz (t3.1 1 1).toInt bQ (pI s6 53 5 t0) (by rw [q_nc rfl]; exact eQ) BIG 0 0 _ rfl bQ.1 ⟨fun q hq => absurd hq (Nat.not_lt_zero _), fun _ _ => rfl, fun _ _ => rfl, rfl⟩) (fun _ s8 w => pq_n (fun s9 e9 => pq_s ⟨s8, w, ?_⟩))
      rw [e9]
    refine rq_pp c m (fun _ s' _ t' x y => ?_)
    obtain ⟨s9, x1, x2⟩ := x
    obtain ⟨t2, y1, y2⟩ := y
    have f := night_fz (s2 := pI s6 53 5 t0) H3 k (by rw [ht]) x1 y1
    rw [← x2, ← y2] at f
    obtain ⟨f1, f2, f3, f4, f5⟩ := f
    refine ⟨f1, ?_, ?_, ?_, ?_⟩
    · rw [f2, K3.1 6 (by decide)]
    · rw [f3, K3.2.2.1 4 (by decide)]
    · rw [f4, K3.1 5 (by decide), K3.2.2.1 1 (by decide)]
    · rw [f5, K3.1 5 (by decide), K3.2.2.1 1 (by decide)]
  refine rq_iC (fun d => fin _ (by rw [if_pos d])) (fun d => fin _ (by rw [if_neg d]))
