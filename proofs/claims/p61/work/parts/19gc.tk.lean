/-! a street that is taken: all of it, on both sides -/
def cnM (M : Nat → Int32) : Nat → Nat := fun q => if q < 4 then (M q).toInt.toNat else 0
def NmsR (b : Nat) (s : Sg) (mm : Nat → Int64) (M : Nat → Int32) : Prop := ∃ N : Nat, (s.1 (b + 1) 12).toInt = (N : Int) ∧ NmR (s.2 (b + 4)) (s.1 (b + 5)) (s.1 (b + 6)) N mm (cnM M)
theorem nmr_c {nm nm' : Nat → Int64} {so nu so' nu' : Nat → Int32} {N : Nat} {mm mm' : Nat → Int64} {cnt : Nat → Nat} (h : NmR nm so nu N mm cnt) (h1 : ∀ i, i < N → nm' i = nm i ∧ so' i = so i ∧ nu' i = nu i) (h2 : ∀ q j, q < 4 → j < cnt q → mm' (offN q + j) = mm (offN q + j)) : NmR nm' so' nu' N mm' cnt := by
  refine ⟨h.1, fun i hi => ?_, fun q j hq hj => ?_, fun i i' hi hi' e => ?_⟩
  · obtain ⟨q, j, a1, a2, a3, a4, a5⟩ := h.2.1 i hi
    have w := h1 i hi
    exact ⟨q, j, a1, a2, by rw [w.2.1]; exact a3, by rw [w.2.2]; exact a4, by rw [w.1, h2 q j a1 a2]; exact a5⟩
  · obtain ⟨i, a1, a2, a3⟩ := h.2.2.1 q j hq hj
    have w := h1 i a1
    exact ⟨i, a1, by rw [w.2.1]; exact a2, by rw [w.2.2]; exact a3⟩
  · rw [(h1 i hi).1, (h1 i' hi').1] at e
    exact h.2.2.2 i i' hi hi' e
theorem cn_24 {M : Nat → Int32} (c : (0 ≤ (M 0).toInt ∧ (M 0).toInt ≤ 8) ∧ (0 ≤ (M 1).toInt ∧ (M 1).toInt ≤ 8) ∧ (0 ≤ (M 2).toInt ∧ (M 2).toInt ≤ 4) ∧ (0 ≤ (M 3).toInt ∧ (M 3).toInt ≤ 4)) : (cnM M 0 ≤ 8 ∧ cnM M 1 ≤ 8 ∧ cnM M 2 ≤ 4 ∧ cnM M 3 ≤ 4) ∧ ∀ q j, q < 4 → j < cnM M q → offN q + j < 24 := by
  have a0 : cnM M 0 = (M 0).toInt.toNat := rfl
  have a1 : cnM M 1 = (M 1).toInt.toNat := rfl
  have a2 : cnM M 2 = (M 2).toInt.toNat := rfl
  have a3 : cnM M 3 = (M 3).toInt.toNat := rfl
  have o0 : offN 0 = 0 := rfl
  have o1 : offN 1 = 8 := rfl
  have o2 : offN 2 = 16 := rfl
  have o3 : offN 3 = 20 := rfl
  refine ⟨by omega, fun q j hq hj => ?_⟩
  have w : q = 0 ∨ q = 1 ∨ q = 2 ∨ q = 3 := by omega
  rcases w with w | w | w | w <;> subst w <;> omega
/-- a world copied: its names -/
theorem nms_cp {b d : Nat} {s s' : Sg} {mm mm' : Nat → Int64} {M M' : Nat → Int32} (h : NmsR b s mm M) (c : (0 ≤ (M 0).toInt ∧ (M 0).toInt ≤ 8) ∧ (0 ≤ (M 1).toInt ∧ (M 1).toInt ≤ 8) ∧ (0 ≤ (M 2).toInt ∧ (M 2).toInt ≤ 4) ∧ (0 ≤ (M 3).toInt ∧ (M 3).toInt ≤ 4)) (e12 : s'.1 (d + 1) 12 = s.1 (b + 1) 12) (e4 : ∀ k, k < 24 → s'.2 (d + 4) k = s.2 (b + 4) k) (e5 : ∀ k, k < 24 → s'.1 (d + 5) k = s.1 (b + 5) k) (e6 : ∀ k, k < 24 → s'.1 (d + 6) k = s.1 (b + 6) k) (eM : ∀ k, k < 4 → M' k = M k) (em : ∀ k, k < 24 → mm' k = mm k) : NmsR d s' mm' M' := by
  obtain ⟨N, h1, h2⟩ := h
  have b4 := cn_24 c
  have ec : cnM M' = cnM M := by
    funext q
    unfold cnM
    by_cases z : q < 4
    · rw [if_pos z, if_pos z, eM q z]
    · rw [if_neg z, if_neg z]
  have hN : N ≤ 24 := by
    have := h2.1
    have := b4.1
    omega
  refine ⟨N, by rw [e12]; exact h1, ?_⟩
  rw [ec]
  exact nmr_c h2 (fun i hi => ⟨e4 i (by omega), e5 i (by omega), e6 i (by omega)⟩) (fun q j hq hj => em _ (b4.2 q j hq hj))
/-- fresh: as a street that is taken just now -/
def FreshP (s t : Sg) : Prop := ((PlnR 24 s (t.1 1) ∧ GrdT 0 s (t.1 1) ∧ OvR 0 s (t.1 1)) ∧ (t.1 1 10 = 0 ∨ t.1 1 10 = 1) ∧ PlB (t.1 1) ∧ Gz (t.1 1)) ∧ (s.1 26 6 = t.1 1 4 ∧ t.1 1 4 = 0) ∧ NmsR 24 s (t.2 2) (t.1 1) ∧ t.1 1 11 = -1
theorem fresh_of {n : Nat} {s s10 s14 t t' : Sg} (h : SR n s t) (hb : BdN t) (es : ∀ c, ¬ c = 0 → s10.1 c = s.1 c) (es2 : s10.2 = s.2) (w : CpW 51 24 s10 s14) (m : CpM 4 0 t t') : FreshP (pI s14 0 15 0) (pI (pI t' 0 16 0) 0 2 0) := by
  obtain ⟨⟨h1, h2, h3⟩, hp, hg, hn⟩ := h
  have hp : PlnR 51 s (mN t) := hp
  have cS : ∀ i k, 1 ≤ i → i ≤ 26 → loW i ≤ k → k < hiW i → (pI s14 0 15 0).1 (24 + i) k = s.1 (51 + i) k := fun i k i1 i2 k1 k2 => by
    rw [pI_o _ _ _ _ _ (by omega), w.2.1 i k i1 i2 k1 k2, es (51 + i) (by omega)]
  have cN : ∀ k, k < 24 → (pI s14 0 15 0).2 (24 + 4) k = s.2 (51 + 4) k := fun k hk => by
    show s14.2 (24 + 4) k = _
    rw [w.2.2 k hk, es2]
  have cM : ∀ p, p < 480 → (pI (pI t' 0 16 0) 0 2 0).1 1 p = mN t p := fun p hp => by
    rw [q_nc rfl, q_nc rfl]
    have x := m.1.1 p hp
    rw [show 480 * 0 + p = p by omega, show 480 * 4 + p = 1920 + p by omega] at x
    exact x
  have cm : ∀ p, p < 24 → (pI (pI t' 0 16 0) 0 2 0).2 2 p = nmN t p := fun p hp => by
    have x := m.2.1.1 p hp
    rw [show 24 * 0 + p = p by omega, show 24 * 4 + p = 96 + p by omega] at x
    exact x
  generalize pI s14 0 15 0 = S at cS cN ⊢
  generalize pI (pI t' 0 16 0) 0 2 0 = T at cM cm ⊢
  have pM : ∀ k, PlP k → T.1 1 k = mN t k := fun k hk => cM k (by
    rcases hk with z | z | z | z | ⟨q', z, z'⟩ | ⟨c', z, z'⟩ | ⟨g', z, z'⟩ <;> omega)
  have bb := hp.2.1
  obtain ⟨g1, g2, g3, g4, g5, g6⟩ := hg
  have n24 : ∀ q, q < 8 → T.1 1 (43 + 5 * q) = 0 := fun q hq => by rw [cM _ (by omega)]; exact (g3 q hq).2.1
  refine ⟨⟨⟨pln_g (b := 51) (d := 24) hp (fun k k1 k2 => cS 1 k (by decide) (by decide) (by show 12 ≤ k; omega) (by show k < 20; omega)) (fun i k i1 i2 hk => ?_) pM, fun c k p g => ?_, fun q hq => Or.inl (n24 q hq), fun q hq _ => n24 q hq, fun i hi => ?_⟩, ?_, plb_g hb.1.1 ⟨bb.2.1.2, bb.2.2.1.2, bb.2.2.2.2⟩ pM, fun x hx hx9 => ?_⟩, ⟨?_, ?_⟩, ?_, ?_⟩
  · refine cS i k (by omega) (by omega) ?_ ?_
    · unfold loW
      rw [if_neg (by omega), if_neg (by omega), if_neg (by omega)]
      exact Nat.zero_le _
    · unfold hiW
      rw [if_neg (by omega), if_neg (by omega), if_neg (by omega), if_neg (by omega), if_neg (by omega), if_neg (by omega)]
      by_cases z : i ≤ 10
      · rw [if_pos z] at hk ⊢
        exact hk
      · rw [if_neg z] at hk
        rw [if_neg z, if_pos (by omega)]
        exact hk
  · unfold Gp at g
    rw [cM p (by omega)]
    rcases g with ⟨y, z | z | z | z⟩ | ⟨y, z, z'⟩ | ⟨z, y⟩
    · rw [z.1, z.2]
      exact (cS 16 k (by decide) (by decide) (Nat.zero_le _) y).trans (g1 k y).1
    · rw [z.1, z.2]
      exact (cS 17 k (by decide) (by decide) (Nat.zero_le _) y).trans (g1 k y).2.1
    · rw [z.1, z.2]
      exact (cS 18 k (by decide) (by decide) (Nat.zero_le _) y).trans ((g1 k y).2.2.1.trans (g1 k y).2.2.2.symm)
    · rw [z.1, z.2]
      exact (cS 19 k (by decide) (by decide) (Nat.zero_le _) y).trans ((g3 k y).1.trans (g3 k y).2.2.symm)
    · rw [z, z']
      exact (cS 20 k (by decide) (by decide) (Nat.zero_le _) y).trans (g2 k y)
    · rw [z]
      have a := cS 2 k (by decide) (by decide) (by show 5 ≤ k; omega) (by show k < 13; omega)
      have b : s.1 53 k = 0 := g4 k (by omega) (by omega)
      have c : mN t p = 0 := by
        have w : p = 10 ∨ p = 12 ∨ p = 5 ∨ p = 6 ∨ p = 7 ∨ p = 8 := by omega
        rcases w with w | w | w | w | w | w <;> rw [w]
        · exact g5.2.2.2.2.2.1
        · exact g5.2.2.2.2.2.2.2
        · exact g5.2.1
        · exact g5.2.2.1
        · exact g5.2.2.2.1
        · exact g5.2.2.2.2.1
      rw [c]
      exact a.trans b
  · have a : S.1 26 5 = s.1 53 5 := cS 2 5 (by decide) (by decide) (by decide) (by decide)
    show bt (S.1 26 5) i = _
    rw [a, g4 5 (by decide) (by decide), bt_0]
    refine (decide_eq_false (fun z => ?_)).symm
    have z2 := z.2
    rw [n24 i z.1] at z2
    exact absurd z2 (by decide)
  · rw [cM 10 (by decide)]
    exact Or.inl g5.2.2.2.2.2.1
  · rw [cM 9 (by decide)] at hx9
    rw [cM _ (by omega), cM _ (by omega), cM _ (by omega)]
    exact hb.1.2 x hx hx9
  · have a : S.1 26 6 = s.1 53 6 := cS 2 6 (by decide) (by decide) (by decide) (by decide)
    rw [a, g4 6 (by decide) (by decide), cM 4 (by decide)]
    exact g5.1.symm
  · rw [cM 4 (by decide)]
    exact g5.1
  · have hn' : NmsR 51 s (nmN t) (mN t) := hn
    exact nms_cp hn' bb (cS 1 12 (by decide) (by decide) (by decide) (by decide)) cN (fun k hk => cS 5 k (by decide) (by decide) (Nat.zero_le _) hk) (fun k hk => cS 6 k (by decide) (by decide) (Nat.zero_le _) hk) (fun k hk => cM k (by omega)) cm
  · rw [cM 11 (by decide)]
    exact g5.2.2.2.2.2.2.1
theorem bd_0 {t t' : Sg} (m : ClrM t t') : BdN (pI t' 0 20 0) := by
  have M : ∀ k, k < 480 → mN (pI t' 0 20 0) k = if k = 11 then -1 else if k = 13 then 5 else 0 := fun k hk => m.1 k hk
  have M0 : ∀ k, k < 480 → ¬ k = 11 → ¬ k = 13 → mN (pI t' 0 20 0) k = 0 := fun k h1 h2 h3 => by rw [M k h1, if_neg h2, if_neg h3]
  have e0 : (0 : Int32).toInt = 0 := rfl
  have c0 := M0 0 (by decide) (by decide) (by decide)
  have c1 := M0 1 (by decide) (by decide) (by decide)
  have c2 := M0 2 (by decide) (by decide) (by decide)
  have c3 := M0 3 (by decide) (by decide) (by decide)
  have c9 := M0 9 (by decide) (by decide) (by decide)
  have w : mN (pI t' 0 20 0) 13 = 5 := by rw [M 13 (by decide), if_neg (by decide), if_pos rfl]
  refine ⟨⟨⟨fun q hq => ?_, fun q hq => ?_, fun q hq => ?_, by rw [w]; decide, fun h _ => by rw [c9, bt_0], Or.inl (M0 14 (by decide) (by decide) (by decide))⟩, fun x hx hb => ?_⟩, ⟨fun x hx _ => ⟨M0 _ (by omega) (by omega) (by omega), M0 _ (by omega) (by omega) (by omega)⟩, fun x hx => M0 _ (by omega) (by omega) (by omega), fun x hx _ => M0 _ (by omega) (by omega) (by omega)⟩, fun q hq => ?_, ?_⟩
  · rw [c1, e0] at hq
    exact absurd hq (by omega)
  · rw [c2, e0] at hq
    exact absurd hq (by omega)
  · rw [c3, e0] at hq
    exact absurd hq (by omega)
  · exact ⟨M0 _ (by omega) (by omega) (by omega), M0 _ (by omega) (by omega) (by omega), M0 _ (by omega) (by omega) (by omega)⟩
  · rw [c2, e0] at hq
    exact absurd hq (by omega)
  · unfold Cn4
    rw [c0, c1, c2, c3]
    decide
theorem street_f {sC sM : Sg} (a1 : Int32) (e10 : sC.1 0 13 = sM.1 0 10) (hc : 0 ≤ (sM.1 0 10).toInt ∧ (sM.1 0 10).toInt ≤ 900) (tb : TapB sC sM) : RQ (f_X11_street a1 sC) (f_X12_street a1 sM) (fun r s r' t => r = r' ∧ s.1 0 15 = t.1 0 2 ∧ (s.1 0 15 = 0 → FreshP s t)) := by
  refine street_x a1 e10 hc tb (J := BdN) (fun t ht => pq_w (part_b ht) (fun r t' w => w.2)) (fun t t' m => bd_0 m) (rq_s ⟨rfl, by rw [q_eq, q_eq], fun z => absurd z (by rw [q_eq]; decide)⟩) (fun n s t h hb k => ?_) (fun s t h => ?_)
  · refine rq_bC (ct_x s) (fun _ s10 e => rq_bC (cw_X10_copyFrom_51 s10) (fun _ s14 w => ?_))
    have p : RQ (some (s14.1 25 14, pI s14 0 15 0)) (f_X12_street_b50 t) (fun r s r' t => r = r' ∧ s.1 0 15 = t.1 0 2 ∧ (s.1 0 15 = 0 → FreshP s t)) := by
      refine rq_pp (P := fun r s => r = s14.1 25 14 ∧ s = pI s14 0 15 0) (pq_s ⟨rfl, rfl⟩) (swx_50y t h.1.2.1) (fun r s2 r' t2 q y => ?_)
      obtain ⟨s', m, y1, y2⟩ := y
      have a : s14.1 25 14 = s10.1 52 14 := w.2.1 1 14 (by decide) (by decide) (by decide) (by decide)
      have b : s'.1 1 1 = t.1 1 1921 := m.1.1 1 (by decide)
      have d : s10.1 52 14 = s.1 52 14 := by rw [e, q_nc rfl, q_nc rfl, q_nc rfl]
      have f : s.1 52 14 = t.1 1 1921 := h.2.1.1.2.1
      refine ⟨by rw [q.1, y1, a, d, f, b], by rw [q.2, y2, q_eq, q_eq], fun _ => ?_⟩
      rw [q.2, y2]
      exact fresh_of h hb (fun c hc => by rw [e, pI_o _ _ _ _ _ hc, pI_o _ _ _ _ _ hc, pI_o _ _ _ _ _ hc]) (by rw [e]; rfl) w m
    exact p
  · refine rq_bC (ct_x s) (fun _ s10 e => ?_)
    have p : RQ (some ((-1 : Int32), pI s10 0 15 9)) (f_X12_street_b50 t) (fun r s r' t => r = r' ∧ s.1 0 15 = t.1 0 2 ∧ (s.1 0 15 = 0 → FreshP s t)) := by
      have h0 : ¬ t.1 0 18 = 0 := fun z => by
        have h3 := h.2.2
        rw [z] at h3
        exact absurd h3 (by decide)
      exact rq_pp (P := fun r s => r = -1 ∧ s = pI s10 0 15 9) (pq_s ⟨rfl, rfl⟩) (swx_50n t h0 (Int.le_of_lt h.2.2)) (fun r s2 r' t2 q y => ⟨q.1.trans y.1.symm, by rw [q.2, y.2, q_eq, q_eq], fun z => absurd z (by rw [q.2, q_eq]; decide)⟩)
    exact p
