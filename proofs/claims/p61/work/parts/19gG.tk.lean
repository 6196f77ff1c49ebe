/-! texts: one end of a row: a house that is there, on both sides -/
theorem has_p (a0 a1 : Int32) (s : Sg) : PQ (f_X11_has a0 a1 s) (fun r t => t = s ∧ ((r = 1 ∧ ¬ ((a0 >>> (a1 &&& 31)) &&& 1) = 0) ∨ (r = 0 ∧ ¬ ¬ ((a0 >>> (a1 &&& 31)) &&& 1) = 0))) := by
  unfold f_X11_has
  exact pq_if (fun c => pq_s ⟨rfl, Or.inr ⟨rfl, fun w => w c⟩⟩) (fun c => pq_s ⟨rfl, Or.inl ⟨rfl, c⟩⟩)
abbrev LT58 : Nat := 196159429230833773869868419475239575503486838015652790272
abbrev LT59 : Nat := 196159429230833773869868419475239575503775068391804502016
abbrev LT62 : Nat := 196159429230833773869868419475239575507810293657928466432
abbrev LT63 : Nat := 196159429230833773869868419475239575512421979676355854336
theorem end58_r {n q : Nat} {x : Int32} (hq : 1 ≤ q ∧ q < 4) (hqc : q = 1) {sC sM : Sg} (h : WkT n q x sC sM) {p0 : Int} (hp : p0 ≤ (sC.1 7 4).toInt) (a3 a4 v1 v2 v3 v4 : Int32) (P : Nat) (hP : (v1 + v4).toNatClampNeg = 1920 + P) (hin : InW q x.toNatClampNeg P) (hv4 : v4 = 0 ∨ v4 = 1) (k : Int32 → Int32 → Int32 → Int32 → Sg → Option (Int32 × Sg)) (bad : ∀ r : Int32, 0 ≤ r.toInt → r.toInt < (sM.1 1 1920).toInt → ((r = a3 ∨ ¬ ((a4 >>> (r &&& 31)) &&& 1) = 0) ↔ ((¬ v3 = 0 ∧ (((sM.1 1 1929) >>> (r &&& 31)) &&& 1) = 1) ∨ (v4 = 1 ∧ r = sM.1 1 v1.toNatClampNeg)))) {G : Sg → Sg → Prop} {K : Int32 → Sg → Option (Int32 × Sg)} (hK : K0 K) (KC : Sg → Option (Int32 × Sg)) (hk : ∀ (r : Int32) (s t : Sg), WkT n q x s t → p0 ≤ (s.1 7 4).toInt → (s.1 58 x.toNatClampNeg = r ∧ t.1 1 (1920 + P) = r ∧ 0 ≤ r.toInt ∧ r.toInt < (sM.1 1 1920).toInt ∧ ¬ (v4 = 1 ∧ r = sM.1 1 v1.toNatClampNeg)) → (∀ c, 58 ≤ c → c ≤ 66 → ¬ c = 58 → s.1 c = sC.1 c) → (∀ j, ¬ j = 1920 + P → t.1 1 j = sM.1 1 j) → s.1 52 = sC.1 52 → RQ (KC s) (bd (if v4 = 0 then bd (f_X12_wantWord_1001 v2 t) (fun r5 s6 => if r5 = 0 then some (0, s6) else k v1 v2 v3 (v4 + 1) s6) else k v1 v2 v3 (v4 + 1) t) K) (Og G)) : RQ (bd (f_X6_takeEnd_58 x a3 a4 sC) (fun r s => if r = 0 then some (0, s) else KC s)) (bd (bd (f_X12_houseHere sM) (fun r1 s2 => if r1 = (-1) then f_X12_twoHouses_b65 k v1 v2 v3 v4 s2 else if v3 = 0 then f_X12_twoHouses_b42 k v1 v2 v3 v4 r1 s2 else if (((s2.1 1 1929) >>> (r1 &&& 31)) &&& 1) = 1 then bd (f_X12_fails 5 s2) (fun r10 s11 => ck (r10 = 0 ∨ r10 = 1) (some (r10, s11))) else f_X12_twoHouses_b42 k v1 v2 v3 v4 r1 s2)) K) (Og G) := by
  have tk := h.1.1
  have h0 := h.1.2.1
  have b0 : 0 ≤ (sM.1 1 1920).toInt ∧ (sM.1 1 1920).toInt ≤ 8 := h.2.2.1.2.1.1
  unfold f_X6_takeEnd_58 f_X7_findName_52 f_X12_houseHere
  refine rm_b (rm_b (rq_bM (name_r tk) (fun r1 s2 g => ?_)))
  obtain ⟨es, g⟩ := g
  subst es
  refine rc_b (rc_i (fun c => ?_) (fun c => ?_))
  rotate_left
  · -- no name
    refine rm_i (fun _ => ?_) (fun d => absurd (r1_y g d) c)
    refine rm_s (rm_i (fun _ => ?_) (fun w => absurd rfl w))
    unfold f_X12_twoHouses_b65 f_X12_oldOne
    refine rm_b (rm_b (rq_bM (name_r tk) (fun r1 s3 g1 => ?_)))
    obtain ⟨es, g1⟩ := g1
    subst es
    refine rm_i (fun _ => ?_) (fun d => absurd (r1_y g1 d) c)
    refine rc_b (rm_b (rq_b2 (fails_r tk h0 2 (by decide)) (fun r s r' t g3 => ?_)))
    obtain ⟨z, z', g3⟩ := g3
    subst z; subst z'
    refine rc_c (fun _ => rm_c (fun _ => rc_s (rm_s ?_)))
    refine rc_i (fun _ => rm_i (fun _ => ?_) (fun w => absurd rfl w)) (fun w => absurd rfl w)
    refine rc_s (rm_s ?_)
    rw [if_pos rfl, hK t]
    exact rq_s (Or.inr ⟨rfl, rfl, g3⟩)
  obtain ⟨b, hab, hbn⟩ := here_r tk c
  obtain ⟨N0, b1, w1, w2, -⟩ := h.2.1
  have hN : (sC.1 52 12).toInt = ((N0 + 1 : Nat) : Int) := by omega
  have fnd := fh_p b s2 hbn 96 (s2.1 1 1920).toInt.toNat (by omega) 96 (s2.1 1 1920) rfl (by omega)
  refine rc_b (rq_bC (no_p2 (sC.2 7 6) 100 (N0 + 1) sC hN (by omega)) (fun r s gC => ?_))
  obtain ⟨es, gC⟩ := gC
  subst es
  refine rm_i (fun d => absurd c (r1_n g d)) (fun _ => rm_b (rq_bM fnd (fun r3 s4 gM => rm_s ?_)))
  obtain ⟨es, gM⟩ := gM
  subst es
  have fe := find_e hq h c hab hN gC gM
  obtain ⟨er, fr⟩ := fe
  have e77 : (pI s 7 7 r).1 7 7 = r := q_eq
  have tk7 : ∀ v p w, TkRel n (pI s 7 7 v) (pI s4 1 p w) := fun v p w => tk_f (L1 := 2 ^ 187) (L2 := 2 ^ 1) tk (fr_x 187 rfl) (fr_x 1 rfl) (m_and rfl) (m_and rfl)
  have tk70 : TkRel n (pI s 7 7 r) s4 := tk_f (L1 := 2 ^ 187) (L2 := 0) tk (fr_x 187 rfl) fr_r (m_and rfl) rfl
  rw [e77]
  -- the reference asks once more
  have old : ∀ (KX : Int32 → Sg → Option (Int32 × Sg)) (oC : Option (Int32 × Sg)), (r = -1 → RQ oC (bd (bd (f_X12_fails 3 (pI s4 1 (1920 + P) r)) (fun r8 s9 => ck (r8 = 0 ∨ r8 = 1) (some (r8, s9)))) KX) (Og G)) → (¬ r = -1 → RQ oC (bd (bd (f_X12_ahead (pI s4 1 (1920 + P) r)) (fun _ s11 => some (1, s11))) KX) (Og G)) → RQ oC (bd (f_X12_oldOne 96 (s4.1 1 1920) (v1 + v4) s4) KX) (Og G) := by
    intro KX oC hx3 hx4
    unfold f_X12_oldOne
    refine rm_b (rq_bM (name_r tk) (fun r1 s3 g1 => ?_))
    obtain ⟨es, g1⟩ := g1
    subst es
    refine rm_i (fun d => absurd c (r1_n g1 d)) (fun _ => rm_b (rq_bM fnd (fun r5 s6 gM2 => ?_)))
    obtain ⟨es, gM2⟩ := gM2
    subst es
    have e5 := (find_e hq h c hab hN gC gM2).1
    subst e5
    refine rm_c (fun _ => rm_i (fun z => ?_) (fun z => ?_))
    · rw [hP]
      exact hx3 (q_eq.symm.trans z)
    · rw [hP]
      exact hx4 (fun y => z (q_eq.trans y))
  rcases fr with fr | fr
  · -- no such house
    refine rc_i (fun _ => ?_) (fun w => absurd fr w)
    rw [← er, fr]
    refine rm_i (fun _ => ?_) (fun w => absurd rfl w)
    unfold f_X12_twoHouses_b65
    refine rm_b (old _ _ (fun _ => ?_) (fun w => absurd fr w))
    refine rc_b (rm_b (rq_b2 (fails_r (tk7 _ _ _) (by rw [q_nc rfl]; exact h0) 3 (by decide)) (fun r s r' t g3 => ?_)))
    obtain ⟨z, z', g3⟩ := g3
    subst z; subst z'
    refine rc_i (fun _ => rm_c (fun _ => rc_s (rm_s ?_))) (fun w => absurd rfl w)
    refine rc_i (fun _ => rm_i (fun _ => ?_) (fun w => absurd rfl w)) (fun w => absurd rfl w)
    refine rc_s (rm_s ?_)
    rw [if_pos rfl, hK t]
    exact rq_s (Or.inr ⟨rfl, rfl, g3⟩)
  · have nm1 : ¬ r = -1 := fun e => by
      rw [e] at fr
      exact absurd fr.1 (by decide)
    have bd5 := bad r fr.1 fr.2
    refine rc_i (fun w => absurd w nm1) (fun _ => rc_s ?_)
    refine rc_i (fun z => absurd z i10) (fun _ => ?_)
    rw [← er, e77]
    have ff : ∀ KX : Sg → Option (Int32 × Sg), RQ (bd (bd (f_X7_wrong 5 (pI s 7 7 r)) (fun r3 s4 => ck (r3 = 0 ∨ r3 = 1) (some (r3, s4)))) (fun r s => if r = 0 then some (0, s) else KX s)) (bd (bd (f_X12_fails 5 s4) (fun r10 s11 => ck (r10 = 0 ∨ r10 = 1) (some (r10, s11)))) K) (Og G) := by
      intro KX
      refine rc_b (rm_b (rq_b2 (fails_r tk70 h0 5 (by decide)) (fun r s r' t g3 => ?_)))
      obtain ⟨z, z', g3⟩ := g3
      subst z; subst z'
      refine rc_c (fun _ => rm_c (fun _ => rc_s (rm_s ?_)))
      rw [if_pos rfl, hK t]
      exact rq_s (Or.inr ⟨rfl, rfl, g3⟩)
    by_cases hb : r = a3 ∨ ¬ ((a4 >>> (r &&& 31)) &&& 1) = 0
    · -- not allowed
      have hm := bd5.mp hb
      have cls : RQ (bd (bd (f_X7_wrong 5 (pI s 7 7 r)) (fun r3 s4 => ck (r3 = 0 ∨ r3 = 1) (some (r3, s4)))) (fun r s => if r = 0 then some (0, s) else KC s)) (bd (if v3 = 0 then f_X12_twoHouses_b42 k v1 v2 v3 v4 r s4 else if (((s4.1 1 1929) >>> (r &&& 31)) &&& 1) = 1 then bd (f_X12_fails 5 s4) (fun r10 s11 => ck (r10 = 0 ∨ r10 = 1) (some (r10, s11))) else f_X12_twoHouses_b42 k v1 v2 v3 v4 r s4) K) (Og G) := by
        have b42 : v4 = 1 ∧ r = s4.1 1 v1.toNatClampNeg → RQ (bd (bd (f_X7_wrong 5 (pI s 7 7 r)) (fun r3 s4 => ck (r3 = 0 ∨ r3 = 1) (some (r3, s4)))) (fun r s => if r = 0 then some (0, s) else KC s)) (bd (f_X12_twoHouses_b42 k v1 v2 v3 v4 r s4) K) (Og G) := fun w => by
          unfold f_X12_twoHouses_b42
          exact rm_i (fun _ => rm_c (fun _ => rm_i (fun _ => ff KC) (fun z => absurd w.2 z))) (fun z => absurd w.1 z)
        refine rm_i (fun z3 => b42 ?_) (fun z3 => rm_i (fun _ => ff KC) (fun zg => b42 ?_))
        · rcases hm with w | w
          · exact absurd z3 w.1
          · exact w
        · rcases hm with w | w
          · exact absurd w.2 zg
          · exact w
      refine rm_i (fun w => absurd w nm1) (fun _ => ?_)
      refine rc_i (fun _ => cls) (fun na => rc_b (rq_bC (has_p a4 r (pI s 7 7 r)) (fun r5 s6 g5 => ?_)))
      obtain ⟨es, g5⟩ := g5
      rw [es]
      refine rc_i (fun z => ?_) (fun _ => cls)
      exact absurd (r1_n g5 z) (fun w => w (hb.elim (fun y => absurd y na) id))
    · -- all is well
      have hm : ¬ ((¬ v3 = 0 ∧ (((s4.1 1 1929) >>> (r &&& 31)) &&& 1) = 1) ∨ (v4 = 1 ∧ r = s4.1 1 v1.toNatClampNeg)) := fun w => hb (bd5.mpr w)
      have na : ¬ r = a3 := fun z => hb (Or.inl z)
      have nb : ((a4 >>> (r &&& 31)) &&& 1) = 0 := Decidable.byContradiction fun z => hb (Or.inr z)
      refine rm_i (fun w => absurd w nm1) (fun _ => ?_)
      refine rc_i (fun z => absurd z na) (fun _ => rc_b (rq_bC (has_p a4 r (pI s 7 7 r)) (fun r5 s6 g5 => ?_)))
      obtain ⟨es, g5⟩ := g5
      rw [es]
      refine rc_i (fun _ => rc_c (fun _ => rc_n (fun s8 e8 => ?_))) (fun z => absurd nb (r1_y g5 z))
      rw [e77] at e8
      have f8 : Fr cC LT58 s s8 := by
        rw [e8]
        exact fr_i (fr_i fr_r 187 rfl rfl) 58 rfl rfl
      have f9 : Fr cdN (2 ^ 1) s4 (pI s4 1 (1920 + P) r) := fr_x 1 rfl
      have tk8 : TkRel n s8 (pI s4 1 (1920 + P) r) := tk_f tk f8 f9 rfl (m_and rfl)
      have c8 : ∀ c k, ¬ (c = 58 ∧ k = x.toNatClampNeg) → ¬ (c = 7 ∧ k = 7) → s8.1 c k = s.1 c k := fun c k z1 z2 => by
        rw [e8, pI_1, if_neg z1, pI_1, if_neg z2]
      have cf : ∀ c, ¬ c = 58 → ¬ c = 7 → s8.1 c = s.1 c := fun c z1 z2 => funext fun k => c8 c k (fun y => z1 y.1) (fun y => z2 y.1)
      have w8 : WkT n q x s8 (pI s4 1 (1920 + P) r) := by
        refine wk_x hq h tk8 ⟨cf 52 (by decide) (by decide), by rw [e8]; rfl, cf 56 (by decide) (by decide), cf 57 (by decide) (by decide), cf 61 (by decide) (by decide), cf 8 (by decide) (by decide)⟩ ⟨cf 53 (by decide) (by decide), cf 67 (by decide) (by decide), cf 68 (by decide) (by decide), cf 69 (by decide) (by decide), cf 70 (by decide) (by decide), cf 71 (by decide) (by decide)⟩ (fun k z => ⟨c8 58 k ?_ (by omega), c8 59 k ?_ (by omega), c8 60 k ?_ (by omega)⟩) (fun k z => ⟨c8 62 k ?_ (by omega), c8 63 k ?_ (by omega), c8 64 k ?_ (by omega)⟩) (fun k z => ⟨c8 65 k ?_ (by omega), c8 66 k ?_ (by omega)⟩) ⟨rfl, q_nc rfl, q_nc rfl⟩ (fun k z => ?_)
        all_goals first
          | omega
          | (rw [pI_1, if_neg (fun y => z (by have e := y.2; have e2 : k = P := by omega
                                              rw [e2]; exact hin))])
      have k1 : s8.1 58 x.toNatClampNeg = r := by rw [e8, q_eq]
      have fin : RQ (bd (bd (f_X7_advance s8) (fun _ s10 => some ((1 : Int32), s10))) (fun r s => if r = 0 then some (0, s) else KC s)) (bd (f_X12_twoHouses_b65 k v1 v2 v3 v4 s4) K) (Og G) := by
        unfold f_X12_twoHouses_b65
        refine rm_b (old _ _ (fun w => absurd w nm1) (fun _ => ?_))
        refine rc_b (rm_b (rq_b2 (adv_s tk8) (fun _ s10 _ t w => rc_s (rm_s ?_))))
        refine rq_iC (fun z => absurd z i10) (fun _ => rm_i (fun z => absurd z i10) (fun _ => ?_))
        have kp := kp_of w
        have q1 := tk_pos tk8
        have q2 := w.2.2.2
        have q3 : s8.1 7 4 = s.1 7 4 := c8 7 4 (by omega) (by omega)
        obtain ⟨⟨⟨y1, y2, y3, y4, y5, y6, y7, y8, y9, y10, y11, y12⟩, y13, y14, y15, y16, y17, y18, y19, y20⟩, y21, y22, y23, y24⟩ := kp
        refine hk r s10 t (wk_st w w8) (by rw [q3] at q1; omega) ⟨?_, ?_, fr.1, fr.2, fun z => hm (Or.inr z)⟩ (fun c z1 z2 z3 => ?_) (fun j z => ?_) ?_
        · rw [show s10.1 58 = s8.1 58 by first | exact y6 | exact y7 | exact y10 | exact y11]
          exact k1
        · rw [y21, q_eq]
        · have e : s10.1 c = s8.1 c := by
            have a : c = 58 ∨ c = 59 ∨ c = 60 ∨ c = 61 ∨ c = 62 ∨ c = 63 ∨ c = 64 ∨ c = 65 ∨ c = 66 := by omega
            rcases a with a | a | a | a | a | a | a | a | a <;> subst a <;> assumption
          rw [e, cf c z3 (by omega)]
        · rw [y21, pI_1, if_neg (fun y => z y.2)]
        · rw [y1, cf 52 (by decide) (by decide)]
      have b42 : RQ (bd (bd (f_X7_advance s8) (fun _ s10 => some ((1 : Int32), s10))) (fun r s => if r = 0 then some (0, s) else KC s)) (bd (f_X12_twoHouses_b42 k v1 v2 v3 v4 r s4) K) (Og G) := by
        unfold f_X12_twoHouses_b42
        exact rm_i (fun z4 => rm_c (fun _ => rm_i (fun z => absurd (Or.inr ⟨z4, z⟩) hm) (fun _ => fin))) (fun _ => fin)
      exact rm_i (fun _ => b42) (fun z3 => rm_i (fun zg => absurd (Or.inl ⟨z3, zg⟩) hm) (fun _ => b42))
theorem end59_r {n q : Nat} {x : Int32} (hq : 1 ≤ q ∧ q < 4) (hqc : q = 1) {sC sM : Sg} (h : WkT n q x sC sM) {p0 : Int} (hp : p0 ≤ (sC.1 7 4).toInt) (a3 a4 v1 v2 v3 v4 : Int32) (P : Nat) (hP : (v1 + v4).toNatClampNeg = 1920 + P) (hin : InW q x.toNatClampNeg P) (hv4 : v4 = 0 ∨ v4 = 1) (k : Int32 → Int32 → Int32 → Int32 → Sg → Option (Int32 × Sg)) (bad : ∀ r : Int32, 0 ≤ r.toInt → r.toInt < (sM.1 1 1920).toInt → ((r = a3 ∨ ¬ ((a4 >>> (r &&& 31)) &&& 1) = 0) ↔ ((¬ v3 = 0 ∧ (((sM.1 1 1929) >>> (r &&& 31)) &&& 1) = 1) ∨ (v4 = 1 ∧ r = sM.1 1 v1.toNatClampNeg)))) {G : Sg → Sg → Prop} {K : Int32 → Sg → Option (Int32 × Sg)} (hK : K0 K) (KC : Sg → Option (Int32 × Sg)) (hk : ∀ (r : Int32) (s t : Sg), WkT n q x s t → p0 ≤ (s.1 7 4).toInt → (s.1 59 x.toNatClampNeg = r ∧ t.1 1 (1920 + P) = r ∧ 0 ≤ r.toInt ∧ r.toInt < (sM.1 1 1920).toInt ∧ ¬ (v4 = 1 ∧ r = sM.1 1 v1.toNatClampNeg)) → (∀ c, 58 ≤ c → c ≤ 66 → ¬ c = 59 → s.1 c = sC.1 c) → (∀ j, ¬ j = 1920 + P → t.1 1 j = sM.1 1 j) → s.1 52 = sC.1 52 → RQ (KC s) (bd (if v4 = 0 then bd (f_X12_wantWord_1001 v2 t) (fun r5 s6 => if r5 = 0 then some (0, s6) else k v1 v2 v3 (v4 + 1) s6) else k v1 v2 v3 (v4 + 1) t) K) (Og G)) : RQ (bd (f_X6_takeEnd_59 x a3 a4 sC) (fun r s => if r = 0 then some (0, s) else KC s)) (bd (bd (f_X12_houseHere sM) (fun r1 s2 => if r1 = (-1) then f_X12_twoHouses_b65 k v1 v2 v3 v4 s2 else if v3 = 0 then f_X12_twoHouses_b42 k v1 v2 v3 v4 r1 s2 else if (((s2.1 1 1929) >>> (r1 &&& 31)) &&& 1) = 1 then bd (f_X12_fails 5 s2) (fun r10 s11 => ck (r10 = 0 ∨ r10 = 1) (some (r10, s11))) else f_X12_twoHouses_b42 k v1 v2 v3 v4 r1 s2)) K) (Og G) := by
  have tk := h.1.1
  have h0 := h.1.2.1
  have b0 : 0 ≤ (sM.1 1 1920).toInt ∧ (sM.1 1 1920).toInt ≤ 8 := h.2.2.1.2.1.1
  unfold f_X6_takeEnd_59 f_X7_findName_52 f_X12_houseHere
  refine rm_b (rm_b (rq_bM (name_r tk) (fun r1 s2 g => ?_)))
  obtain ⟨es, g⟩ := g
  subst es
  refine rc_b (rc_i (fun c => ?_) (fun c => ?_))
  rotate_left
  · -- no name
    refine rm_i (fun _ => ?_) (fun d => absurd (r1_y g d) c)
    refine rm_s (rm_i (fun _ => ?_) (fun w => absurd rfl w))
    unfold f_X12_twoHouses_b65 f_X12_oldOne
    refine rm_b (rm_b (rq_bM (name_r tk) (fun r1 s3 g1 => ?_)))
    obtain ⟨es, g1⟩ := g1
    subst es
    refine rm_i (fun _ => ?_) (fun d => absurd (r1_y g1 d) c)
    refine rc_b (rm_b (rq_b2 (fails_r tk h0 2 (by decide)) (fun r s r' t g3 => ?_)))
    obtain ⟨z, z', g3⟩ := g3
    subst z; subst z'
    refine rc_c (fun _ => rm_c (fun _ => rc_s (rm_s ?_)))
    refine rc_i (fun _ => rm_i (fun _ => ?_) (fun w => absurd rfl w)) (fun w => absurd rfl w)
    refine rc_s (rm_s ?_)
    rw [if_pos rfl, hK t]
    exact rq_s (Or.inr ⟨rfl, rfl, g3⟩)
  obtain ⟨b, hab, hbn⟩ := here_r tk c
  obtain ⟨N0, b1, w1, w2, -⟩ := h.2.1
  have hN : (sC.1 52 12).toInt = ((N0 + 1 : Nat) : Int) := by omega
  have fnd := fh_p b s2 hbn 96 (s2.1 1 1920).toInt.toNat (by omega) 96 (s2.1 1 1920) rfl (by omega)
  refine rc_b (rq_bC (no_p2 (sC.2 7 6) 100 (N0 + 1) sC hN (by omega)) (fun r s gC => ?_))
  obtain ⟨es, gC⟩ := gC
  subst es
  refine rm_i (fun d => absurd c (r1_n g d)) (fun _ => rm_b (rq_bM fnd (fun r3 s4 gM => rm_s ?_)))
  obtain ⟨es, gM⟩ := gM
  subst es
  have fe := find_e hq h c hab hN gC gM
  obtain ⟨er, fr⟩ := fe
  have e77 : (pI s 7 7 r).1 7 7 = r := q_eq
  have tk7 : ∀ v p w, TkRel n (pI s 7 7 v) (pI s4 1 p w) := fun v p w => tk_f (L1 := 2 ^ 187) (L2 := 2 ^ 1) tk (fr_x 187 rfl) (fr_x 1 rfl) (m_and rfl) (m_and rfl)
  have tk70 : TkRel n (pI s 7 7 r) s4 := tk_f (L1 := 2 ^ 187) (L2 := 0) tk (fr_x 187 rfl) fr_r (m_and rfl) rfl
  rw [e77]
  -- the reference asks once more
  have old : ∀ (KX : Int32 → Sg → Option (Int32 × Sg)) (oC : Option (Int32 × Sg)), (r = -1 → RQ oC (bd (bd (f_X12_fails 3 (pI s4 1 (1920 + P) r)) (fun r8 s9 => ck (r8 = 0 ∨ r8 = 1) (some (r8, s9)))) KX) (Og G)) → (¬ r = -1 → RQ oC (bd (bd (f_X12_ahead (pI s4 1 (1920 + P) r)) (fun _ s11 => some (1, s11))) KX) (Og G)) → RQ oC (bd (f_X12_oldOne 96 (s4.1 1 1920) (v1 + v4) s4) KX) (Og G) := by
    intro KX oC hx3 hx4
    unfold f_X12_oldOne
    refine rm_b (rq_bM (name_r tk) (fun r1 s3 g1 => ?_))
    obtain ⟨es, g1⟩ := g1
    subst es
    refine rm_i (fun d => absurd c (r1_n g1 d)) (fun _ => rm_b (rq_bM fnd (fun r5 s6 gM2 => ?_)))
    obtain ⟨es, gM2⟩ := gM2
    subst es
    have e5 := (find_e hq h c hab hN gC gM2).1
    subst e5
    refine rm_c (fun _ => rm_i (fun z => ?_) (fun z => ?_))
    · rw [hP]
      exact hx3 (q_eq.symm.trans z)
    · rw [hP]
      exact hx4 (fun y => z (q_eq.trans y))
  rcases fr with fr | fr
  · -- no such house
    refine rc_i (fun _ => ?_) (fun w => absurd fr w)
    rw [← er, fr]
    refine rm_i (fun _ => ?_) (fun w => absurd rfl w)
    unfold f_X12_twoHouses_b65
    refine rm_b (old _ _ (fun _ => ?_) (fun w => absurd fr w))
    refine rc_b (rm_b (rq_b2 (fails_r (tk7 _ _ _) (by rw [q_nc rfl]; exact h0) 3 (by decide)) (fun r s r' t g3 => ?_)))
    obtain ⟨z, z', g3⟩ := g3
    subst z; subst z'
    refine rc_i (fun _ => rm_c (fun _ => rc_s (rm_s ?_))) (fun w => absurd rfl w)
    refine rc_i (fun _ => rm_i (fun _ => ?_) (fun w => absurd rfl w)) (fun w => absurd rfl w)
    refine rc_s (rm_s ?_)
    rw [if_pos rfl, hK t]
    exact rq_s (Or.inr ⟨rfl, rfl, g3⟩)
  · have nm1 : ¬ r = -1 := fun e => by
      rw [e] at fr
      exact absurd fr.1 (by decide)
    have bd5 := bad r fr.1 fr.2
    refine rc_i (fun w => absurd w nm1) (fun _ => rc_s ?_)
    refine rc_i (fun z => absurd z i10) (fun _ => ?_)
    rw [← er, e77]
    have ff : ∀ KX : Sg → Option (Int32 × Sg), RQ (bd (bd (f_X7_wrong 5 (pI s 7 7 r)) (fun r3 s4 => ck (r3 = 0 ∨ r3 = 1) (some (r3, s4)))) (fun r s => if r = 0 then some (0, s) else KX s)) (bd (bd (f_X12_fails 5 s4) (fun r10 s11 => ck (r10 = 0 ∨ r10 = 1) (some (r10, s11)))) K) (Og G) := by
      intro KX
      refine rc_b (rm_b (rq_b2 (fails_r tk70 h0 5 (by decide)) (fun r s r' t g3 => ?_)))
      obtain ⟨z, z', g3⟩ := g3
      subst z; subst z'
      refine rc_c (fun _ => rm_c (fun _ => rc_s (rm_s ?_)))
      rw [if_pos rfl, hK t]
      exact rq_s (Or.inr ⟨rfl, rfl, g3⟩)
    by_cases hb : r = a3 ∨ ¬ ((a4 >>> (r &&& 31)) &&& 1) = 0
    · -- not allowed
      have hm := bd5.mp hb
      have cls : RQ (bd (bd (f_X7_wrong 5 (pI s 7 7 r)) (fun r3 s4 => ck (r3 = 0 ∨ r3 = 1) (some (r3, s4)))) (fun r s => if r = 0 then some (0, s) else KC s)) (bd (if v3 = 0 then f_X12_twoHouses_b42 k v1 v2 v3 v4 r s4 else if (((s4.1 1 1929) >>> (r &&& 31)) &&& 1) = 1 then bd (f_X12_fails 5 s4) (fun r10 s11 => ck (r10 = 0 ∨ r10 = 1) (some (r10, s11))) else f_X12_twoHouses_b42 k v1 v2 v3 v4 r s4) K) (Og G) := by
        have b42 : v4 = 1 ∧ r = s4.1 1 v1.toNatClampNeg → RQ (bd (bd (f_X7_wrong 5 (pI s 7 7 r)) (fun r3 s4 => ck (r3 = 0 ∨ r3 = 1) (some (r3, s4)))) (fun r s => if r = 0 then some (0, s) else KC s)) (bd (f_X12_twoHouses_b42 k v1 v2 v3 v4 r s4) K) (Og G) := fun w => by
          unfold f_X12_twoHouses_b42
          exact rm_i (fun _ => rm_c (fun _ => rm_i (fun _ => ff KC) (fun z => absurd w.2 z))) (fun z => absurd w.1 z)
        refine rm_i (fun z3 => b42 ?_) (fun z3 => rm_i (fun _ => ff KC) (fun zg => b42 ?_))
        · rcases hm with w | w
          · exact absurd z3 w.1
          · exact w
        · rcases hm with w | w
          · exact absurd w.2 zg
          · exact w
      refine rm_i (fun w => absurd w nm1) (fun _ => ?_)
      refine rc_i (fun _ => cls) (fun na => rc_b (rq_bC (has_p a4 r (pI s 7 7 r)) (fun r5 s6 g5 => ?_)))
      obtain ⟨es, g5⟩ := g5
      rw [es]
      refine rc_i (fun z => ?_) (fun _ => cls)
      exact absurd (r1_n g5 z) (fun w => w (hb.elim (fun y => absurd y na) id))
    · -- all is well
      have hm : ¬ ((¬ v3 = 0 ∧ (((s4.1 1 1929) >>> (r &&& 31)) &&& 1) = 1) ∨ (v4 = 1 ∧ r = s4.1 1 v1.toNatClampNeg)) := fun w => hb (bd5.mpr w)
      have na : ¬ r = a3 := fun z => hb (Or.inl z)
      have nb : ((a4 >>> (r &&& 31)) &&& 1) = 0 := Decidable.byContradiction fun z => hb (Or.inr z)
      refine rm_i (fun w => absurd w nm1) (fun _ => ?_)
      refine rc_i (fun z => absurd z na) (fun _ => rc_b (rq_bC (has_p a4 r (pI s 7 7 r)) (fun r5 s6 g5 => ?_)))
      obtain ⟨es, g5⟩ := g5
      rw [es]
      refine rc_i (fun _ => rc_c (fun _ => rc_n (fun s8 e8 => ?_))) (fun z => absurd nb (r1_y g5 z))
      rw [e77] at e8
      have f8 : Fr cC LT59 s s8 := by
        rw [e8]
        exact fr_i (fr_i fr_r 187 rfl rfl) 59 rfl rfl
      have f9 : Fr cdN (2 ^ 1) s4 (pI s4 1 (1920 + P) r) := fr_x 1 rfl
      have tk8 : TkRel n s8 (pI s4 1 (1920 + P) r) := tk_f tk f8 f9 rfl (m_and rfl)
      have c8 : ∀ c k, ¬ (c = 59 ∧ k = x.toNatClampNeg) → ¬ (c = 7 ∧ k = 7) → s8.1 c k = s.1 c k := fun c k z1 z2 => by
        rw [e8, pI_1, if_neg z1, pI_1, if_neg z2]
      have cf : ∀ c, ¬ c = 59 → ¬ c = 7 → s8.1 c = s.1 c := fun c z1 z2 => funext fun k => c8 c k (fun y => z1 y.1) (fun y => z2 y.1)
      have w8 : WkT n q x s8 (pI s4 1 (1920 + P) r) := by
        refine wk_x hq h tk8 ⟨cf 52 (by decide) (by decide), by rw [e8]; rfl, cf 56 (by decide) (by decide), cf 57 (by decide) (by decide), cf 61 (by decide) (by decide), cf 8 (by decide) (by decide)⟩ ⟨cf 53 (by decide) (by decide), cf 67 (by decide) (by decide), cf 68 (by decide) (by decide), cf 69 (by decide) (by decide), cf 70 (by decide) (by decide), cf 71 (by decide) (by decide)⟩ (fun k z => ⟨c8 58 k ?_ (by omega), c8 59 k ?_ (by omega), c8 60 k ?_ (by omega)⟩) (fun k z => ⟨c8 62 k ?_ (by omega), c8 63 k ?_ (by omega), c8 64 k ?_ (by omega)⟩) (fun k z => ⟨c8 65 k ?_ (by omega), c8 66 k ?_ (by omega)⟩) ⟨rfl, q_nc rfl, q_nc rfl⟩ (fun k z => ?_)
        all_goals first
          | omega
          | (rw [pI_1, if_neg (fun y => z (by have e := y.2; have e2 : k = P := by omega
                                              rw [e2]; exact hin))])
      have k1 : s8.1 59 x.toNatClampNeg = r := by rw [e8, q_eq]
      have fin : RQ (bd (bd (f_X7_advance s8) (fun _ s10 => some ((1 : Int32), s10))) (fun r s => if r = 0 then some (0, s) else KC s)) (bd (f_X12_twoHouses_b65 k v1 v2 v3 v4 s4) K) (Og G) := by
        unfold f_X12_twoHouses_b65
        refine rm_b (old _ _ (fun w => absurd w nm1) (fun _ => ?_))
        refine rc_b (rm_b (rq_b2 (adv_s tk8) (fun _ s10 _ t w => rc_s (rm_s ?_))))
        refine rq_iC (fun z => absurd z i10) (fun _ => rm_i (fun z => absurd z i10) (fun _ => ?_))
        have kp := kp_of w
        have q1 := tk_pos tk8
        have q2 := w.2.2.2
        have q3 : s8.1 7 4 = s.1 7 4 := c8 7 4 (by omega) (by omega)
        obtain ⟨⟨⟨y1, y2, y3, y4, y5, y6, y7, y8, y9, y10, y11, y12⟩, y13, y14, y15, y16, y17, y18, y19, y20⟩, y21, y22, y23, y24⟩ := kp
        refine hk r s10 t (wk_st w w8) (by rw [q3] at q1; omega) ⟨?_, ?_, fr.1, fr.2, fun z => hm (Or.inr z)⟩ (fun c z1 z2 z3 => ?_) (fun j z => ?_) ?_
        · rw [show s10.1 59 = s8.1 59 by first | exact y6 | exact y7 | exact y10 | exact y11]
          exact k1
        · rw [y21, q_eq]
        · have e : s10.1 c = s8.1 c := by
            have a : c = 58 ∨ c = 59 ∨ c = 60 ∨ c = 61 ∨ c = 62 ∨ c = 63 ∨ c = 64 ∨ c = 65 ∨ c = 66 := by omega
            rcases a with a | a | a | a | a | a | a | a | a <;> subst a <;> assumption
          rw [e, cf c z3 (by omega)]
        · rw [y21, pI_1, if_neg (fun y => z y.2)]
        · rw [y1, cf 52 (by decide) (by decide)]
      have b42 : RQ (bd (bd (f_X7_advance s8) (fun _ s10 => some ((1 : Int32), s10))) (fun r s => if r = 0 then some (0, s) else KC s)) (bd (f_X12_twoHouses_b42 k v1 v2 v3 v4 r s4) K) (Og G) := by
        unfold f_X12_twoHouses_b42
        exact rm_i (fun z4 => rm_c (fun _ => rm_i (fun z => absurd (Or.inr ⟨z4, z⟩) hm) (fun _ => fin))) (fun _ => fin)
      exact rm_i (fun _ => b42) (fun z3 => rm_i (fun zg => absurd (Or.inl ⟨z3, zg⟩) hm) (fun _ => b42))
theorem end62_r {n q : Nat} {x : Int32} (hq : 1 ≤ q ∧ q < 4) (hqc : q = 2) {sC sM : Sg} (h : WkT n q x sC sM) {p0 : Int} (hp : p0 ≤ (sC.1 7 4).toInt) (a3 a4 v1 v2 v3 v4 : Int32) (P : Nat) (hP : (v1 + v4).toNatClampNeg = 1920 + P) (hin : InW q x.toNatClampNeg P) (hv4 : v4 = 0 ∨ v4 = 1) (k : Int32 → Int32 → Int32 → Int32 → Sg → Option (Int32 × Sg)) (bad : ∀ r : Int32, 0 ≤ r.toInt → r.toInt < (sM.1 1 1920).toInt → ((r = a3 ∨ ¬ ((a4 >>> (r &&& 31)) &&& 1) = 0) ↔ ((¬ v3 = 0 ∧ (((sM.1 1 1929) >>> (r &&& 31)) &&& 1) = 1) ∨ (v4 = 1 ∧ r = sM.1 1 v1.toNatClampNeg)))) {G : Sg → Sg → Prop} {K : Int32 → Sg → Option (Int32 × Sg)} (hK : K0 K) (KC : Sg → Option (Int32 × Sg)) (hk : ∀ (r : Int32) (s t : Sg), WkT n q x s t → p0 ≤ (s.1 7 4).toInt → (s.1 62 x.toNatClampNeg = r ∧ t.1 1 (1920 + P) = r ∧ 0 ≤ r.toInt ∧ r.toInt < (sM.1 1 1920).toInt ∧ ¬ (v4 = 1 ∧ r = sM.1 1 v1.toNatClampNeg)) → (∀ c, 58 ≤ c → c ≤ 66 → ¬ c = 62 → s.1 c = sC.1 c) → (∀ j, ¬ j = 1920 + P → t.1 1 j = sM.1 1 j) → s.1 52 = sC.1 52 → RQ (KC s) (bd (if v4 = 0 then bd (f_X12_wantWord_1001 v2 t) (fun r5 s6 => if r5 = 0 then some (0, s6) else k v1 v2 v3 (v4 + 1) s6) else k v1 v2 v3 (v4 + 1) t) K) (Og G)) : RQ (bd (f_X6_takeEnd_62 x a3 a4 sC) (fun r s => if r = 0 then some (0, s) else KC s)) (bd (bd (f_X12_houseHere sM) (fun r1 s2 => if r1 = (-1) then f_X12_twoHouses_b65 k v1 v2 v3 v4 s2 else if v3 = 0 then f_X12_twoHouses_b42 k v1 v2 v3 v4 r1 s2 else if (((s2.1 1 1929) >>> (r1 &&& 31)) &&& 1) = 1 then bd (f_X12_fails 5 s2) (fun r10 s11 => ck (r10 = 0 ∨ r10 = 1) (some (r10, s11))) else f_X12_twoHouses_b42 k v1 v2 v3 v4 r1 s2)) K) (Og G) := by
  have tk := h.1.1
  have h0 := h.1.2.1
  have b0 : 0 ≤ (sM.1 1 1920).toInt ∧ (sM.1 1 1920).toInt ≤ 8 := h.2.2.1.2.1.1
  unfold f_X6_takeEnd_62 f_X7_findName_52 f_X12_houseHere
  refine rm_b (rm_b (rq_bM (name_r tk) (fun r1 s2 g => ?_)))
  obtain ⟨es, g⟩ := g
  subst es
  refine rc_b (rc_i (fun c => ?_) (fun c => ?_))
  rotate_left
  · -- no name
    refine rm_i (fun _ => ?_) (fun d => absurd (r1_y g d) c)
    refine rm_s (rm_i (fun _ => ?_) (fun w => absurd rfl w))
    unfold f_X12_twoHouses_b65 f_X12_oldOne
    refine rm_b (rm_b (rq_bM (name_r tk) (fun r1 s3 g1 => ?_)))
    obtain ⟨es, g1⟩ := g1
    subst es
    refine rm_i (fun _ => ?_) (fun d => absurd (r1_y g1 d) c)
    refine rc_b (rm_b (rq_b2 (fails_r tk h0 2 (by decide)) (fun r s r' t g3 => ?_)))
    obtain ⟨z, z', g3⟩ := g3
    subst z; subst z'
    refine rc_c (fun _ => rm_c (fun _ => rc_s (rm_s ?_)))
    refine rc_i (fun _ => rm_i (fun _ => ?_) (fun w => absurd rfl w)) (fun w => absurd rfl w)
    refine rc_s (rm_s ?_)
    rw [if_pos rfl, hK t]
    exact rq_s (Or.inr ⟨rfl, rfl, g3⟩)
  obtain ⟨b, hab, hbn⟩ := here_r tk c
  obtain ⟨N0, b1, w1, w2, -⟩ := h.2.1
  have hN : (sC.1 52 12).toInt = ((N0 + 1 : Nat) : Int) := by omega
  have fnd := fh_p b s2 hbn 96 (s2.1 1 1920).toInt.toNat (by omega) 96 (s2.1 1 1920) rfl (by omega)
  refine rc_b (rq_bC (no_p2 (sC.2 7 6) 100 (N0 + 1) sC hN (by omega)) (fun r s gC => ?_))
  obtain ⟨es, gC⟩ := gC
  subst es
  refine rm_i (fun d => absurd c (r1_n g d)) (fun _ => rm_b (rq_bM fnd (fun r3 s4 gM => rm_s ?_)))
  obtain ⟨es, gM⟩ := gM
  subst es
  have fe := find_e hq h c hab hN gC gM
  obtain ⟨er, fr⟩ := fe
  have e77 : (pI s 7 7 r).1 7 7 = r := q_eq
  have tk7 : ∀ v p w, TkRel n (pI s 7 7 v) (pI s4 1 p w) := fun v p w => tk_f (L1 := 2 ^ 187) (L2 := 2 ^ 1) tk (fr_x 187 rfl) (fr_x 1 rfl) (m_and rfl) (m_and rfl)
  have tk70 : TkRel n (pI s 7 7 r) s4 := tk_f (L1 := 2 ^ 187) (L2 := 0) tk (fr_x 187 rfl) fr_r (m_and rfl) rfl
  rw [e77]
  -- the reference asks once more
  have old : ∀ (KX : Int32 → Sg → Option (Int32 × Sg)) (oC : Option (Int32 × Sg)), (r = -1 → RQ oC (bd (bd (f_X12_fails 3 (pI s4 1 (1920 + P) r)) (fun r8 s9 => ck (r8 = 0 ∨ r8 = 1) (some (r8, s9)))) KX) (Og G)) → (¬ r = -1 → RQ oC (bd (bd (f_X12_ahead (pI s4 1 (1920 + P) r)) (fun _ s11 => some (1, s11))) KX) (Og G)) → RQ oC (bd (f_X12_oldOne 96 (s4.1 1 1920) (v1 + v4) s4) KX) (Og G) := by
    intro KX oC hx3 hx4
    unfold f_X12_oldOne
    refine rm_b (rq_bM (name_r tk) (fun r1 s3 g1 => ?_))
    obtain ⟨es, g1⟩ := g1
    subst es
    refine rm_i (fun d => absurd c (r1_n g1 d)) (fun _ => rm_b (rq_bM fnd (fun r5 s6 gM2 => ?_)))
    obtain ⟨es, gM2⟩ := gM2
    subst es
    have e5 := (find_e hq h c hab hN gC gM2).1
    subst e5
    refine rm_c (fun _ => rm_i (fun z => ?_) (fun z => ?_))
    · rw [hP]
      exact hx3 (q_eq.symm.trans z)
    · rw [hP]
      exact hx4 (fun y => z (q_eq.trans y))
  rcases fr with fr | fr
  · -- no such house
    refine rc_i (fun _ => ?_) (fun w => absurd fr w)
    rw [← er, fr]
    refine rm_i (fun _ => ?_) (fun w => absurd rfl w)
    unfold f_X12_twoHouses_b65
    refine rm_b (old _ _ (fun _ => ?_) (fun w => absurd fr w))
    refine rc_b (rm_b (rq_b2 (fails_r (tk7 _ _ _) (by rw [q_nc rfl]; exact h0) 3 (by decide)) (fun r s r' t g3 => ?_)))
    obtain ⟨z, z', g3⟩ := g3
    subst z; subst z'
    refine rc_i (fun _ => rm_c (fun _ => rc_s (rm_s ?_))) (fun w => absurd rfl w)
    refine rc_i (fun _ => rm_i (fun _ => ?_) (fun w => absurd rfl w)) (fun w => absurd rfl w)
    refine rc_s (rm_s ?_)
    rw [if_pos rfl, hK t]
    exact rq_s (Or.inr ⟨rfl, rfl, g3⟩)
  · have nm1 : ¬ r = -1 := fun e => by
      rw [e] at fr
      exact absurd fr.1 (by decide)
    have bd5 := bad r fr.1 fr.2
    refine rc_i (fun w => absurd w nm1) (fun _ => rc_s ?_)
    refine rc_i (fun z => absurd z i10) (fun _ => ?_)
    rw [← er, e77]
    have ff : ∀ KX : Sg → Option (Int32 × Sg), RQ (bd (bd (f_X7_wrong 5 (pI s 7 7 r)) (fun r3 s4 => ck (r3 = 0 ∨ r3 = 1) (some (r3, s4)))) (fun r s => if r = 0 then some (0, s) else KX s)) (bd (bd (f_X12_fails 5 s4) (fun r10 s11 => ck (r10 = 0 ∨ r10 = 1) (some (r10, s11)))) K) (Og G) := by
      intro KX
      refine rc_b (rm_b (rq_b2 (fails_r tk70 h0 5 (by decide)) (fun r s r' t g3 => ?_)))
      obtain ⟨z, z', g3⟩ := g3
      subst z; subst z'
      refine rc_c (fun _ => rm_c (fun _ => rc_s (rm_s ?_)))
      rw [if_pos rfl, hK t]
      exact rq_s (Or.inr ⟨rfl, rfl, g3⟩)
    by_cases hb : r = a3 ∨ ¬ ((a4 >>> (r &&& 31)) &&& 1) = 0
    · -- not allowed
      have hm := bd5.mp hb
      have cls : RQ (bd (bd (f_X7_wrong 5 (pI s 7 7 r)) (fun r3 s4 => ck (r3 = 0 ∨ r3 = 1) (some (r3, s4)))) (fun r s => if r = 0 then some (0, s) else KC s)) (bd (if v3 = 0 then f_X12_twoHouses_b42 k v1 v2 v3 v4 r s4 else if (((s4.1 1 1929) >>> (r &&& 31)) &&& 1) = 1 then bd (f_X12_fails 5 s4) (fun r10 s11 => ck (r10 = 0 ∨ r10 = 1) (some (r10, s11))) else f_X12_twoHouses_b42 k v1 v2 v3 v4 r s4) K) (Og G) := by
        have b42 : v4 = 1 ∧ r = s4.1 1 v1.toNatClampNeg → RQ (bd (bd (f_X7_wrong 5 (pI s 7 7 r)) (fun r3 s4 => ck (r3 = 0 ∨ r3 = 1) (some (r3, s4)))) (fun r s => if r = 0 then some (0, s) else KC s)) (bd (f_X12_twoHouses_b42 k v1 v2 v3 v4 r s4) K) (Og G) := fun w => by
          unfold f_X12_twoHouses_b42
          exact rm_i (fun _ => rm_c (fun _ => rm_i (fun _ => ff KC) (fun z => absurd w.2 z))) (fun z => absurd w.1 z)
        refine rm_i (fun z3 => b42 ?_) (fun z3 => rm_i (fun _ => ff KC) (fun zg => b42 ?_))
        · rcases hm with w | w
          · exact absurd z3 w.1
          · exact w
        · rcases hm with w | w
          · exact absurd w.2 zg
          · exact w
      refine rm_i (fun w => absurd w nm1) (fun _ => ?_)
      refine rc_i (fun _ => cls) (fun na => rc_b (rq_bC (has_p a4 r (pI s 7 7 r)) (fun r5 s6 g5 => ?_)))
      obtain ⟨es, g5⟩ := g5
      rw [es]
      refine rc_i (fun z => ?_) (fun _ => cls)
      exact absurd (r1_n g5 z) (fun w => w (hb.elim (fun y => absurd y na) id))
    · -- all is well
      have hm : ¬ ((¬ v3 = 0 ∧ (((s4.1 1 1929) >>> (r &&& 31)) &&& 1) = 1) ∨ (v4 = 1 ∧ r = s4.1 1 v1.toNatClampNeg)) := fun w => hb (bd5.mpr w)
      have na : ¬ r = a3 := fun z => hb (Or.inl z)
      have nb : ((a4 >>> (r &&& 31)) &&& 1) = 0 := Decidable.byContradiction fun z => hb (Or.inr z)
      refine rm_i (fun w => absurd w nm1) (fun _ => ?_)
      refine rc_i (fun z => absurd z na) (fun _ => rc_b (rq_bC (has_p a4 r (pI s 7 7 r)) (fun r5 s6 g5 => ?_)))
      obtain ⟨es, g5⟩ := g5
      rw [es]
      refine rc_i (fun _ => rc_c (fun _ => rc_n (fun s8 e8 => ?_))) (fun z => absurd nb (r1_y g5 z))
      rw [e77] at e8
      have f8 : Fr cC LT62 s s8 := by
        rw [e8]
        exact fr_i (fr_i fr_r 187 rfl rfl) 62 rfl rfl
      have f9 : Fr cdN (2 ^ 1) s4 (pI s4 1 (1920 + P) r) := fr_x 1 rfl
      have tk8 : TkRel n s8 (pI s4 1 (1920 + P) r) := tk_f tk f8 f9 rfl (m_and rfl)
      have c8 : ∀ c k, ¬ (c = 62 ∧ k = x.toNatClampNeg) → ¬ (c = 7 ∧ k = 7) → s8.1 c k = s.1 c k := fun c k z1 z2 => by
        rw [e8, pI_1, if_neg z1, pI_1, if_neg z2]
      have cf : ∀ c, ¬ c = 62 → ¬ c = 7 → s8.1 c = s.1 c := fun c z1 z2 => funext fun k => c8 c k (fun y => z1 y.1) (fun y => z2 y.1)
      have w8 : WkT n q x s8 (pI s4 1 (1920 + P) r) := by
        refine wk_x hq h tk8 ⟨cf 52 (by decide) (by decide), by rw [e8]; rfl, cf 56 (by decide) (by decide), cf 57 (by decide) (by decide), cf 61 (by decide) (by decide), cf 8 (by decide) (by decide)⟩ ⟨cf 53 (by decide) (by decide), cf 67 (by decide) (by decide), cf 68 (by decide) (by decide), cf 69 (by decide) (by decide), cf 70 (by decide) (by decide), cf 71 (by decide) (by decide)⟩ (fun k z => ⟨c8 58 k ?_ (by omega), c8 59 k ?_ (by omega), c8 60 k ?_ (by omega)⟩) (fun k z => ⟨c8 62 k ?_ (by omega), c8 63 k ?_ (by omega), c8 64 k ?_ (by omega)⟩) (fun k z => ⟨c8 65 k ?_ (by omega), c8 66 k ?_ (by omega)⟩) ⟨rfl, q_nc rfl, q_nc rfl⟩ (fun k z => ?_)
        all_goals first
          | omega
          | (rw [pI_1, if_neg (fun y => z (by have e := y.2; have e2 : k = P := by omega
                                              rw [e2]; exact hin))])
      have k1 : s8.1 62 x.toNatClampNeg = r := by rw [e8, q_eq]
      have fin : RQ (bd (bd (f_X7_advance s8) (fun _ s10 => some ((1 : Int32), s10))) (fun r s => if r = 0 then some (0, s) else KC s)) (bd (f_X12_twoHouses_b65 k v1 v2 v3 v4 s4) K) (Og G) := by
        unfold f_X12_twoHouses_b65
        refine rm_b (old _ _ (fun w => absurd w nm1) (fun _ => ?_))
        refine rc_b (rm_b (rq_b2 (adv_s tk8) (fun _ s10 _ t w => rc_s (rm_s ?_))))
        refine rq_iC (fun z => absurd z i10) (fun _ => rm_i (fun z => absurd z i10) (fun _ => ?_))
        have kp := kp_of w
        have q1 := tk_pos tk8
        have q2 := w.2.2.2
        have q3 : s8.1 7 4 = s.1 7 4 := c8 7 4 (by omega) (by omega)
        obtain ⟨⟨⟨y1, y2, y3, y4, y5, y6, y7, y8, y9, y10, y11, y12⟩, y13, y14, y15, y16, y17, y18, y19, y20⟩, y21, y22, y23, y24⟩ := kp
        refine hk r s10 t (wk_st w w8) (by rw [q3] at q1; omega) ⟨?_, ?_, fr.1, fr.2, fun z => hm (Or.inr z)⟩ (fun c z1 z2 z3 => ?_) (fun j z => ?_) ?_
        · rw [show s10.1 62 = s8.1 62 by first | exact y6 | exact y7 | exact y10 | exact y11]
          exact k1
        · rw [y21, q_eq]
        · have e : s10.1 c = s8.1 c := by
            have a : c = 58 ∨ c = 59 ∨ c = 60 ∨ c = 61 ∨ c = 62 ∨ c = 63 ∨ c = 64 ∨ c = 65 ∨ c = 66 := by omega
            rcases a with a | a | a | a | a | a | a | a | a <;> subst a <;> assumption
          rw [e, cf c z3 (by omega)]
        · rw [y21, pI_1, if_neg (fun y => z y.2)]
        · rw [y1, cf 52 (by decide) (by decide)]
      have b42 : RQ (bd (bd (f_X7_advance s8) (fun _ s10 => some ((1 : Int32), s10))) (fun r s => if r = 0 then some (0, s) else KC s)) (bd (f_X12_twoHouses_b42 k v1 v2 v3 v4 r s4) K) (Og G) := by
        unfold f_X12_twoHouses_b42
        exact rm_i (fun z4 => rm_c (fun _ => rm_i (fun z => absurd (Or.inr ⟨z4, z⟩) hm) (fun _ => fin))) (fun _ => fin)
      exact rm_i (fun _ => b42) (fun z3 => rm_i (fun zg => absurd (Or.inl ⟨z3, zg⟩) hm) (fun _ => b42))
theorem end63_r {n q : Nat} {x : Int32} (hq : 1 ≤ q ∧ q < 4) (hqc : q = 2) {sC sM : Sg} (h : WkT n q x sC sM) {p0 : Int} (hp : p0 ≤ (sC.1 7 4).toInt) (a3 a4 v1 v2 v3 v4 : Int32) (P : Nat) (hP : (v1 + v4).toNatClampNeg = 1920 + P) (hin : InW q x.toNatClampNeg P) (hv4 : v4 = 0 ∨ v4 = 1) (k : Int32 → Int32 → Int32 → Int32 → Sg → Option (Int32 × Sg)) (bad : ∀ r : Int32, 0 ≤ r.toInt → r.toInt < (sM.1 1 1920).toInt → ((r = a3 ∨ ¬ ((a4 >>> (r &&& 31)) &&& 1) = 0) ↔ ((¬ v3 = 0 ∧ (((sM.1 1 1929) >>> (r &&& 31)) &&& 1) = 1) ∨ (v4 = 1 ∧ r = sM.1 1 v1.toNatClampNeg)))) {G : Sg → Sg → Prop} {K : Int32 → Sg → Option (Int32 × Sg)} (hK : K0 K) (KC : Sg → Option (Int32 × Sg)) (hk : ∀ (r : Int32) (s t : Sg), WkT n q x s t → p0 ≤ (s.1 7 4).toInt → (s.1 63 x.toNatClampNeg = r ∧ t.1 1 (1920 + P) = r ∧ 0 ≤ r.toInt ∧ r.toInt < (sM.1 1 1920).toInt ∧ ¬ (v4 = 1 ∧ r = sM.1 1 v1.toNatClampNeg)) → (∀ c, 58 ≤ c → c ≤ 66 → ¬ c = 63 → s.1 c = sC.1 c) → (∀ j, ¬ j = 1920 + P → t.1 1 j = sM.1 1 j) → s.1 52 = sC.1 52 → RQ (KC s) (bd (if v4 = 0 then bd (f_X12_wantWord_1001 v2 t) (fun r5 s6 => if r5 = 0 then some (0, s6) else k v1 v2 v3 (v4 + 1) s6) else k v1 v2 v3 (v4 + 1) t) K) (Og G)) : RQ (bd (f_X6_takeEnd_63 x a3 a4 sC) (fun r s => if r = 0 then some (0, s) else KC s)) (bd (bd (f_X12_houseHere sM) (fun r1 s2 => if r1 = (-1) then f_X12_twoHouses_b65 k v1 v2 v3 v4 s2 else if v3 = 0 then f_X12_twoHouses_b42 k v1 v2 v3 v4 r1 s2 else if (((s2.1 1 1929) >>> (r1 &&& 31)) &&& 1) = 1 then bd (f_X12_fails 5 s2) (fun r10 s11 => ck (r10 = 0 ∨ r10 = 1) (some (r10, s11))) else f_X12_twoHouses_b42 k v1 v2 v3 v4 r1 s2)) K) (Og G) := by
  have tk := h.1.1
  have h0 := h.1.2.1
  have b0 : 0 ≤ (sM.1 1 1920).toInt ∧ (sM.1 1 1920).toInt ≤ 8 := h.2.2.1.2.1.1
  unfold f_X6_takeEnd_63 f_X7_findName_52 f_X12_houseHere
  refine rm_b (rm_b (rq_bM (name_r tk) (fun r1 s2 g => ?_)))
  obtain ⟨es, g⟩ := g
  subst es
  refine rc_b (rc_i (fun c => ?_) (fun c => ?_))
  rotate_left
  · -- no name
    refine rm_i (fun _ => ?_) (fun d => absurd (r1_y g d) c)
    refine rm_s (rm_i (fun _ => ?_) (fun w => absurd rfl w))
    unfold f_X12_twoHouses_b65 f_X12_oldOne
    refine rm_b (rm_b (rq_bM (name_r tk) (fun r1 s3 g1 => ?_)))
    obtain ⟨es, g1⟩ := g1
    subst es
    refine rm_i (fun _ => ?_) (fun d => absurd (r1_y g1 d) c)
    refine rc_b (rm_b (rq_b2 (fails_r tk h0 2 (by decide)) (fun r s r' t g3 => ?_)))
    obtain ⟨z, z', g3⟩ := g3
    subst z; subst z'
    refine rc_c (fun _ => rm_c (fun _ => rc_s (rm_s ?_)))
    refine rc_i (fun _ => rm_i (fun _ => ?_) (fun w => absurd rfl w)) (fun w => absurd rfl w)
    refine rc_s (rm_s ?_)
    rw [if_pos rfl, hK t]
    exact rq_s (Or.inr ⟨rfl, rfl, g3⟩)
  obtain ⟨b, hab, hbn⟩ := here_r tk c
  obtain ⟨N0, b1, w1, w2, -⟩ := h.2.1
  have hN : (sC.1 52 12).toInt = ((N0 + 1 : Nat) : Int) := by omega
  have fnd := fh_p b s2 hbn 96 (s2.1 1 1920).toInt.toNat (by omega) 96 (s2.1 1 1920) rfl (by omega)
  refine rc_b (rq_bC (no_p2 (sC.2 7 6) 100 (N0 + 1) sC hN (by omega)) (fun r s gC => ?_))
  obtain ⟨es, gC⟩ := gC
  subst es
  refine rm_i (fun d => absurd c (r1_n g d)) (fun _ => rm_b (rq_bM fnd (fun r3 s4 gM => rm_s ?_)))
  obtain ⟨es, gM⟩ := gM
  subst es
  have fe := find_e hq h c hab hN gC gM
  obtain ⟨er, fr⟩ := fe
  have e77 : (pI s 7 7 r).1 7 7 = r := q_eq
  have tk7 : ∀ v p w, TkRel n (pI s 7 7 v) (pI s4 1 p w) := fun v p w => tk_f (L1 := 2 ^ 187) (L2 := 2 ^ 1) tk (fr_x 187 rfl) (fr_x 1 rfl) (m_and rfl) (m_and rfl)
  have tk70 : TkRel n (pI s 7 7 r) s4 := tk_f (L1 := 2 ^ 187) (L2 := 0) tk (fr_x 187 rfl) fr_r (m_and rfl) rfl
  rw [e77]
  -- the reference asks once more
  have old : ∀ (KX : Int32 → Sg → Option (Int32 × Sg)) (oC : Option (Int32 × Sg)), (r = -1 → RQ oC (bd (bd (f_X12_fails 3 (pI s4 1 (1920 + P) r)) (fun r8 s9 => ck (r8 = 0 ∨ r8 = 1) (some (r8, s9)))) KX) (Og G)) → (¬ r = -1 → RQ oC (bd (bd (f_X12_ahead (pI s4 1 (1920 + P) r)) (fun _ s11 => some (1, s11))) KX) (Og G)) → RQ oC (bd (f_X12_oldOne 96 (s4.1 1 1920) (v1 + v4) s4) KX) (Og G) := by
    intro KX oC hx3 hx4
    unfold f_X12_oldOne
    refine rm_b (rq_bM (name_r tk) (fun r1 s3 g1 => ?_))
    obtain ⟨es, g1⟩ := g1
    subst es
    refine rm_i (fun d => absurd c (r1_n g1 d)) (fun _ => rm_b (rq_bM fnd (fun r5 s6 gM2 => ?_)))
    obtain ⟨es, gM2⟩ := gM2
    subst es
    have e5 := (find_e hq h c hab hN gC gM2).1
    subst e5
    refine rm_c (fun _ => rm_i (fun z => ?_) (fun z => ?_))
    · rw [hP]
      exact hx3 (q_eq.symm.trans z)
    · rw [hP]
      exact hx4 (fun y => z (q_eq.trans y))
  rcases fr with fr | fr
  · -- no such house
    refine rc_i (fun _ => ?_) (fun w => absurd fr w)
    rw [← er, fr]
    refine rm_i (fun _ => ?_) (fun w => absurd rfl w)
    unfold f_X12_twoHouses_b65
    refine rm_b (old _ _ (fun _ => ?_) (fun w => absurd fr w))
    refine rc_b (rm_b (rq_b2 (fails_r (tk7 _ _ _) (by rw [q_nc rfl]; exact h0) 3 (by decide)) (fun r s r' t g3 => ?_)))
    obtain ⟨z, z', g3⟩ := g3
    subst z; subst z'
    refine rc_i (fun _ => rm_c (fun _ => rc_s (rm_s ?_))) (fun w => absurd rfl w)
    refine rc_i (fun _ => rm_i (fun _ => ?_) (fun w => absurd rfl w)) (fun w => absurd rfl w)
    refine rc_s (rm_s ?_)
    rw [if_pos rfl, hK t]
    exact rq_s (Or.inr ⟨rfl, rfl, g3⟩)
  · have nm1 : ¬ r = -1 := fun e => by
      rw [e] at fr
      exact absurd fr.1 (by decide)
    have bd5 := bad r fr.1 fr.2
    refine rc_i (fun w => absurd w nm1) (fun _ => rc_s ?_)
    refine rc_i (fun z => absurd z i10) (fun _ => ?_)
    rw [← er, e77]
    have ff : ∀ KX : Sg → Option (Int32 × Sg), RQ (bd (bd (f_X7_wrong 5 (pI s 7 7 r)) (fun r3 s4 => ck (r3 = 0 ∨ r3 = 1) (some (r3, s4)))) (fun r s => if r = 0 then some (0, s) else KX s)) (bd (bd (f_X12_fails 5 s4) (fun r10 s11 => ck (r10 = 0 ∨ r10 = 1) (some (r10, s11)))) K) (Og G) := by
      intro KX
      refine rc_b (rm_b (rq_b2 (fails_r tk70 h0 5 (by decide)) (fun r s r' t g3 => ?_)))
      obtain ⟨z, z', g3⟩ := g3
      subst z; subst z'
      refine rc_c (fun _ => rm_c (fun _ => rc_s (rm_s ?_)))
      rw [if_pos rfl, hK t]
      exact rq_s (Or.inr ⟨rfl, rfl, g3⟩)
    by_cases hb : r = a3 ∨ ¬ ((a4 >>> (r &&& 31)) &&& 1) = 0
    · -- not allowed
      have hm := bd5.mp hb
      have cls : RQ (bd (bd (f_X7_wrong 5 (pI s 7 7 r)) (fun r3 s4 => ck (r3 = 0 ∨ r3 = 1) (some (r3, s4)))) (fun r s => if r = 0 then some (0, s) else KC s)) (bd (if v3 = 0 then f_X12_twoHouses_b42 k v1 v2 v3 v4 r s4 else if (((s4.1 1 1929) >>> (r &&& 31)) &&& 1) = 1 then bd (f_X12_fails 5 s4) (fun r10 s11 => ck (r10 = 0 ∨ r10 = 1) (some (r10, s11))) else f_X12_twoHouses_b42 k v1 v2 v3 v4 r s4) K) (Og G) := by
        have b42 : v4 = 1 ∧ r = s4.1 1 v1.toNatClampNeg → RQ (bd (bd (f_X7_wrong 5 (pI s 7 7 r)) (fun r3 s4 => ck (r3 = 0 ∨ r3 = 1) (some (r3, s4)))) (fun r s => if r = 0 then some (0, s) else KC s)) (bd (f_X12_twoHouses_b42 k v1 v2 v3 v4 r s4) K) (Og G) := fun w => by
          unfold f_X12_twoHouses_b42
          exact rm_i (fun _ => rm_c (fun _ => rm_i (fun _ => ff KC) (fun z => absurd w.2 z))) (fun z => absurd w.1 z)
        refine rm_i (fun z3 => b42 ?_) (fun z3 => rm_i (fun _ => ff KC) (fun zg => b42 ?_))
        · rcases hm with w | w
          · exact absurd z3 w.1
          · exact w
        · rcases hm with w | w
          · exact absurd w.2 zg
          · exact w
      refine rm_i (fun w => absurd w nm1) (fun _ => ?_)
      refine rc_i (fun _ => cls) (fun na => rc_b (rq_bC (has_p a4 r (pI s 7 7 r)) (fun r5 s6 g5 => ?_)))
      obtain ⟨es, g5⟩ := g5
      rw [es]
      refine rc_i (fun z => ?_) (fun _ => cls)
      exact absurd (r1_n g5 z) (fun w => w (hb.elim (fun y => absurd y na) id))
    · -- all is well
      have hm : ¬ ((¬ v3 = 0 ∧ (((s4.1 1 1929) >>> (r &&& 31)) &&& 1) = 1) ∨ (v4 = 1 ∧ r = s4.1 1 v1.toNatClampNeg)) := fun w => hb (bd5.mpr w)
      have na : ¬ r = a3 := fun z => hb (Or.inl z)
      have nb : ((a4 >>> (r &&& 31)) &&& 1) = 0 := Decidable.byContradiction fun z => hb (Or.inr z)
      refine rm_i (fun w => absurd w nm1) (fun _ => ?_)
      refine rc_i (fun z => absurd z na) (fun _ => rc_b (rq_bC (has_p a4 r (pI s 7 7 r)) (fun r5 s6 g5 => ?_)))
      obtain ⟨es, g5⟩ := g5
      rw [es]
      refine rc_i (fun _ => rc_c (fun _ => rc_n (fun s8 e8 => ?_))) (fun z => absurd nb (r1_y g5 z))
      rw [e77] at e8
      have f8 : Fr cC LT63 s s8 := by
        rw [e8]
        exact fr_i (fr_i fr_r 187 rfl rfl) 63 rfl rfl
      have f9 : Fr cdN (2 ^ 1) s4 (pI s4 1 (1920 + P) r) := fr_x 1 rfl
      have tk8 : TkRel n s8 (pI s4 1 (1920 + P) r) := tk_f tk f8 f9 rfl (m_and rfl)
      have c8 : ∀ c k, ¬ (c = 63 ∧ k = x.toNatClampNeg) → ¬ (c = 7 ∧ k = 7) → s8.1 c k = s.1 c k := fun c k z1 z2 => by
        rw [e8, pI_1, if_neg z1, pI_1, if_neg z2]
      have cf : ∀ c, ¬ c = 63 → ¬ c = 7 → s8.1 c = s.1 c := fun c z1 z2 => funext fun k => c8 c k (fun y => z1 y.1) (fun y => z2 y.1)
      have w8 : WkT n q x s8 (pI s4 1 (1920 + P) r) := by
        refine wk_x hq h tk8 ⟨cf 52 (by decide) (by decide), by rw [e8]; rfl, cf 56 (by decide) (by decide), cf 57 (by decide) (by decide), cf 61 (by decide) (by decide), cf 8 (by decide) (by decide)⟩ ⟨cf 53 (by decide) (by decide), cf 67 (by decide) (by decide), cf 68 (by decide) (by decide), cf 69 (by decide) (by decide), cf 70 (by decide) (by decide), cf 71 (by decide) (by decide)⟩ (fun k z => ⟨c8 58 k ?_ (by omega), c8 59 k ?_ (by omega), c8 60 k ?_ (by omega)⟩) (fun k z => ⟨c8 62 k ?_ (by omega), c8 63 k ?_ (by omega), c8 64 k ?_ (by omega)⟩) (fun k z => ⟨c8 65 k ?_ (by omega), c8 66 k ?_ (by omega)⟩) ⟨rfl, q_nc rfl, q_nc rfl⟩ (fun k z => ?_)
        all_goals first
          | omega
          | (rw [pI_1, if_neg (fun y => z (by have e := y.2; have e2 : k = P := by omega
                                              rw [e2]; exact hin))])
      have k1 : s8.1 63 x.toNatClampNeg = r := by rw [e8, q_eq]
      have fin : RQ (bd (bd (f_X7_advance s8) (fun _ s10 => some ((1 : Int32), s10))) (fun r s => if r = 0 then some (0, s) else KC s)) (bd (f_X12_twoHouses_b65 k v1 v2 v3 v4 s4) K) (Og G) := by
        unfold f_X12_twoHouses_b65
        refine rm_b (old _ _ (fun w => absurd w nm1) (fun _ => ?_))
        refine rc_b (rm_b (rq_b2 (adv_s tk8) (fun _ s10 _ t w => rc_s (rm_s ?_))))
        refine rq_iC (fun z => absurd z i10) (fun _ => rm_i (fun z => absurd z i10) (fun _ => ?_))
        have kp := kp_of w
        have q1 := tk_pos tk8
        have q2 := w.2.2.2
        have q3 : s8.1 7 4 = s.1 7 4 := c8 7 4 (by omega) (by omega)
        obtain ⟨⟨⟨y1, y2, y3, y4, y5, y6, y7, y8, y9, y10, y11, y12⟩, y13, y14, y15, y16, y17, y18, y19, y20⟩, y21, y22, y23, y24⟩ := kp
        refine hk r s10 t (wk_st w w8) (by rw [q3] at q1; omega) ⟨?_, ?_, fr.1, fr.2, fun z => hm (Or.inr z)⟩ (fun c z1 z2 z3 => ?_) (fun j z => ?_) ?_
        · rw [show s10.1 63 = s8.1 63 by first | exact y6 | exact y7 | exact y10 | exact y11]
          exact k1
        · rw [y21, q_eq]
        · have e : s10.1 c = s8.1 c := by
            have a : c = 58 ∨ c = 59 ∨ c = 60 ∨ c = 61 ∨ c = 62 ∨ c = 63 ∨ c = 64 ∨ c = 65 ∨ c = 66 := by omega
            rcases a with a | a | a | a | a | a | a | a | a <;> subst a <;> assumption
          rw [e, cf c z3 (by omega)]
        · rw [y21, pI_1, if_neg (fun y => z y.2)]
        · rw [y1, cf 52 (by decide) (by decide)]
      have b42 : RQ (bd (bd (f_X7_advance s8) (fun _ s10 => some ((1 : Int32), s10))) (fun r s => if r = 0 then some (0, s) else KC s)) (bd (f_X12_twoHouses_b42 k v1 v2 v3 v4 r s4) K) (Og G) := by
        unfold f_X12_twoHouses_b42
        exact rm_i (fun z4 => rm_c (fun _ => rm_i (fun z => absurd (Or.inr ⟨z4, z⟩) hm) (fun _ => fin))) (fun _ => fin)
      exact rm_i (fun _ => b42) (fun z3 => rm_i (fun zg => absurd (Or.inl ⟨z3, zg⟩) hm) (fun _ => b42))
