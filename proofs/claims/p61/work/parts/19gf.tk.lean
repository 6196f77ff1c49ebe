/-! days: each kind of row; a step is begun, a step is done -/
theorem b249_0 : K0 f_X1_takeStep_b249 := fun t => by
  unfold f_X1_takeStep_b249
  exact if_pos rfl
theorem fin_k {G H : Sg → Sg → Prop} {kC kM : Int32 → Sg → Option (Int32 × Sg)} {r r' : Int32} {s t : Sg} (hC : K0 kC) (hM : K0 kM) (g : Og G r s r' t) (h : G s t → RQ (kC 1 s) (kM 1 t) (Og H)) : RQ (kC r s) (kM r' t) (Og H) := by
  rcases g with ⟨z, z', w⟩ | ⟨z, z', w⟩ <;> subst z <;> subst z'
  · exact h w
  · rw [hC, hM]
    exact rq_s (Or.inr ⟨rfl, rfl, w⟩)
theorem ch72 {x c j : Nat} {s t s' t' : Sg} (C : Ch x c j s t s' t') (c' : Nat) (h1 : 72 ≤ c') (h2 : c' ≤ 77) (hc : ¬ c' = c) : s'.1 c' x = s.1 c' x := C.2.1 c' h1 h2 x (fun z => hc z.1)
theorem chm {x c j : Nat} {s t s' t' : Sg} (C : Ch x c j s t s' t') (p : Nat) (hp : ¬ p = 2030 + 6 * x + j) : t'.1 1 p = t.1 1 p := C.2.2 p hp
/-- what the end of an order wants -/
def HkP (n : Nat) (dd e : Int) (x : Nat) (s : Sg) (kM : Int32 → Sg → Option (Int32 × Sg)) (H : Sg → Sg → Prop) : Prop := ∀ s' t', OrP n dd e x s s' t' → s'.1 72 x = s.1 72 x → RQ (f_X1_takeStep_b249 1 s') (kM 1 t') (Og H)
theorem ord_n {n : Nat} {dd e : Int} {x : Nat} {s t : Sg} {kM : Int32 → Sg → Option (Int32 × Sg)} {H : Sg → Sg → Prop} (h : DyR n dd e x s t) (hx : x < 60) (hM : K0 kM) (a b lo hi : Int32) (ha : a.toInt = (x : Int)) (hb : b.toInt = 2030 + 6 * (x : Int)) (hr : ∀ s' t' : Sg, s'.1 72 x = s.1 72 x → t'.1 1 (2030 + 6 * x) = t.1 1 (2030 + 6 * x) → s'.1 74 x = t'.1 1 (2030 + 6 * x + 1) → (lo.toInt ≤ (t'.1 1 (2030 + 6 * x + 1)).toInt ∧ (t'.1 1 (2030 + 6 * x + 1)).toInt ≤ hi.toInt) → RwR 51 2030 s' (t'.1 1) x ∧ VdR 2030 (t'.1 1) x) (hk : HkP n dd e x s kM H) : RQ (bd (f_X1_takeNumber a lo hi s) (fun r s => f_X1_takeStep_b249 r s)) (bd (bd (f_X12_number (b + 1) lo hi t) (fun r t => ck (r = 0 ∨ r = 1) (some (r, t)))) kM) (Og H) := by
  refine rq_b2 (rq_kM (num_d h a (b + 1) lo hi ha (row_p (j := 1) hb hx 1 rfl (by decide)) (by decide))) (fun r s' r' t' g => fin_k b249_0 hM g (fun g => ?_))
  obtain ⟨⟨D, C⟩, g5, g6⟩ := g
  exact hk s' t' ⟨D, hr s' t' (ch72 C 72 (by decide) (by decide) (by decide)) (chm C _ (by omega)) C.1 g5, g6, ch72 C 72 (by decide) (by decide) (by decide)⟩ (ch72 C 72 (by decide) (by decide) (by decide))
theorem ord_116 {n : Nat} {dd e : Int} {x : Nat} {s t : Sg} {kM : Int32 → Sg → Option (Int32 × Sg)} {H : Sg → Sg → Prop} (h : DyR n dd e x s t) (hx : x < 60) (hM : K0 kM) (a b : Int32) (ha : a.toInt = (x : Int)) (hb : b.toInt = 2030 + 6 * (x : Int)) (hw : s.1 72 x = 116) (hm : t.1 1 (2030 + 6 * x) = 4) (hk : HkP n dd e x s kM H) : RQ (OrC 116 a s) (bd (f_X12_dayOrder 4 b t) kM) (Og H) := by
  rw [oc_116, do_4]
  refine ord_n h hx hM a b 0 16 ha hb (fun s' t' z1 z2 z3 z4 => ⟨Or.inr (Or.inr (Or.inr (Or.inl ⟨z1.trans hw, z2.trans hm, z3⟩))), ?_⟩) hk
  unfold VdR
  rw [z2, hm]
  exact vd_4 z4
theorem ord_122 {n : Nat} {dd e : Int} {x : Nat} {s t : Sg} {kM : Int32 → Sg → Option (Int32 × Sg)} {H : Sg → Sg → Prop} (h : DyR n dd e x s t) (hx : x < 60) (hM : K0 kM) (a b : Int32) (ha : a.toInt = (x : Int)) (hb : b.toInt = 2030 + 6 * (x : Int)) (hw : s.1 72 x = 122) (hm : t.1 1 (2030 + 6 * x) = 22) (hk : HkP n dd e x s kM H) : RQ (OrC 122 a s) (bd (f_X12_dayOrder 22 b t) kM) (Og H) := by
  rw [oc_122, do_22]
  refine ord_n h hx hM a b 0 99 ha hb (fun s' t' z1 z2 z3 z4 => ⟨Or.inr (Or.inr (Or.inr (Or.inr (Or.inl ⟨z1.trans hw, z2.trans hm, z3⟩)))), ?_⟩) hk
  unfold VdR
  rw [z2, hm]
  exact vd_22 z4
theorem ord_128 {n : Nat} {dd e : Int} {x : Nat} {s t : Sg} {kM : Int32 → Sg → Option (Int32 × Sg)} {H : Sg → Sg → Prop} (h : DyR n dd e x s t) (hx : x < 60) (hM : K0 kM) (a b : Int32) (ha : a.toInt = (x : Int)) (hb : b.toInt = 2030 + 6 * (x : Int)) (hw : s.1 72 x = 128) (hm : t.1 1 (2030 + 6 * x) = 25) (hk : HkP n dd e x s kM H) : RQ (OrC 128 a s) (bd (f_X12_dayOrder 25 b t) kM) (Og H) := by
  rw [oc_128, do_25]
  refine ord_n h hx hM a b 1 99 ha hb (fun s' t' z1 z2 z3 z4 => ⟨Or.inr (Or.inr (Or.inr (Or.inr (Or.inr (Or.inr (Or.inl ⟨z1.trans hw, z2.trans hm, z3⟩)))))), ?_⟩) hk
  unfold VdR
  rw [z2, hm]
  exact vd_25 z4
theorem ord_123 {s t : Sg} {kM : Int32 → Sg → Option (Int32 × Sg)} {H : Sg → Sg → Prop} (a b : Int32) (hk : RQ (f_X1_takeStep_b249 1 s) (kM 1 t) (Og H)) : RQ (OrC 123 a s) (bd (f_X12_dayOrder 23 b t) kM) (Og H) := by
  rw [oc_123, do_23]
  exact rm_s hk
theorem ord_130 {s t : Sg} {kM : Int32 → Sg → Option (Int32 × Sg)} {H : Sg → Sg → Prop} (a b : Int32) (hk : RQ (f_X1_takeStep_b249 1 s) (kM 1 t) (Og H)) : RQ (OrC 130 a s) (bd (f_X12_dayOrder 27 b t) kM) (Og H) := by
  rw [oc_130, do_27]
  exact rm_s hk
theorem ord_124 {n : Nat} {dd e : Int} {x : Nat} {s t : Sg} {kM : Int32 → Sg → Option (Int32 × Sg)} {H : Sg → Sg → Prop} (h : DyR n dd e x s t) (hx : x < 60) (hM : K0 kM) (a b : Int32) (ha : a.toInt = (x : Int)) (hb : b.toInt = 2030 + 6 * (x : Int)) (hw : s.1 72 x = 124) (hk : ∀ s' t', OrP n dd e x s s' t' → RQ (f_X1_takeStep_b249 1 s') (kM 1 t') (Og H)) : RQ (OrC 124 a s) (bd (f_X12_dayOrder 24 b t) kM) (Og H) := by
  rw [oc_124, do_24]
  exact rq_b2 (rq_kM (test_d h hx a b ha hb hw)) (fun r s' r' t' g => fin_k b249_0 hM g (fun g => hk s' t' g))
theorem ord_121 {n : Nat} {dd e : Int} {x : Nat} {s t : Sg} {kM : Int32 → Sg → Option (Int32 × Sg)} {H : Sg → Sg → Prop} (h : DyR n dd e x s t) (hx : x < 60) (hM : K0 kM) (a b : Int32) (ha : a.toInt = (x : Int)) (hb : b.toInt = 2030 + 6 * (x : Int)) (hw : s.1 72 x = 121) (hm : t.1 1 (2030 + 6 * x) = 21) (hk : HkP n dd e x s kM H) : RQ (OrC 121 a s) (bd (f_X12_dayOrder 21 b t) kM) (Og H) := by
  rw [oc_121, do_21]
  refine rq_b2 (rq_kM (house_d h (cc := 73) (Or.inl rfl) a (b + 1) ha (row_p (j := 1) hb hx 1 rfl (by decide)))) (fun r s' r' t' g => fin_k b249_0 hM g (fun g => ?_))
  obtain ⟨⟨D, C⟩, g5, g6⟩ := g
  have m0 := (chm C (2030 + 6 * x) (by omega)).trans hm
  refine hk s' t' ⟨D, ⟨Or.inr (Or.inr (Or.inl ⟨(ch72 C 72 (by decide) (by decide) (by decide)).trans hw, m0, C.1⟩)), ?_⟩, g6, ch72 C 72 (by decide) (by decide) (by decide)⟩ (ch72 C 72 (by decide) (by decide) (by decide))
  refine vd_h (Or.inl m0) ?_
  rw [chm C 0 (by omega), chm C 9 (by omega)]
  exact g5
theorem ord_120 {n : Nat} {dd e : Int} {x : Nat} {s t : Sg} {kM : Int32 → Sg → Option (Int32 × Sg)} {H : Sg → Sg → Prop} (h : DyR n dd e x s t) (hx : x < 60) (hM : K0 kM) (a b : Int32) (ha : a.toInt = (x : Int)) (hb : b.toInt = 2030 + 6 * (x : Int)) (hw : s.1 72 x = 120) (hm : t.1 1 (2030 + 6 * x) = 19) (hk : HkP n dd e x s kM H) : RQ (OrC 120 a s) (bd (f_X12_dayOrder 19 b t) kM) (Og H) := by
  rw [oc_120, do_19]
  refine rm_b (rq_b2 (house_d h (cc := 73) (Or.inl rfl) a (b + 1) ha (row_p (j := 1) hb hx 1 rfl (by decide))) (fun r s1 r' t1 g => ?_))
  rw [b127_e]
  refine og_k hM g (fun g => rm_b (rq_b2 (num_d g.1.1 a (b + 2) 1 999 ha (row_p (j := 2) hb hx 2 rfl (by decide)) (by decide)) (fun r s2 r' t2 g2 => ?_)))
  rw [b127_e]
  refine og_k hM g2 (fun g2 => rm_s ?_)
  obtain ⟨⟨D1, C1⟩, g5, g6⟩ := g
  obtain ⟨⟨D2, C2⟩, k5, k6⟩ := g2
  have m0 : t2.1 1 (2030 + 6 * x) = 19 := by rw [chm C2 _ (by omega), chm C1 _ (by omega), hm]
  have m1 : t2.1 1 (2030 + 6 * x + 1) = t1.1 1 (2030 + 6 * x + 1) := chm C2 _ (by omega)
  have c72 : s2.1 72 x = s.1 72 x := by rw [ch72 C2 72 (by decide) (by decide) (by decide), ch72 C1 72 (by decide) (by decide) (by decide)]
  have hp1 := tk_pos D1.1.1.1
  refine hk s2 t2 ⟨D2, ⟨Or.inl ⟨c72.trans hw, m0, ?_, C2.1⟩, ?_⟩, by omega, c72⟩ c72
  · show s2.1 73 x = t2.1 1 (2030 + 6 * x + 1)
    rw [ch72 C2 73 (by decide) (by decide) (by decide), m1, C1.1]
  · unfold VdR
    rw [m0, m1]
    refine vd_19 ?_ k5
    rw [chm C2 0 (by omega), chm C2 9 (by omega), chm C1 0 (by omega), chm C1 9 (by omega)]
    exact g5
theorem ord_119 {n : Nat} {dd e : Int} {x : Nat} {s t : Sg} {kM : Int32 → Sg → Option (Int32 × Sg)} {H : Sg → Sg → Prop} (h : DyR n dd e x s t) (hx : x < 60) (hM : K0 kM) (a b : Int32) (ha : a.toInt = (x : Int)) (hb : b.toInt = 2030 + 6 * (x : Int)) (hw : s.1 72 x = 119) (hm : t.1 1 (2030 + 6 * x) = 20) (hk : HkP n dd e x s kM H) : RQ (OrC 119 a s) (bd (f_X12_dayOrder 20 b t) kM) (Og H) := by
  rw [oc_119, do_20]
  refine rm_b (rq_b2 (old_d (q := 3) (j := 3) h (by decide) (by decide) a (b + 3) 20 _ ha (row_p (j := 3) hb hx 3 rfl (by decide)) rfl rfl) (fun r s1 r' t1 g => ?_))
  rw [b183_e]
  refine og_k hM g (fun g => rm_b (rq_b2 (num_d g.1.1 a (b + 2) 1 999 ha (row_p (j := 2) hb hx 2 rfl (by decide)) (by decide)) (fun r s2 r' t2 g2 => ?_)))
  rw [b183_e]
  refine og_k hM g2 (fun g2 => rm_b (rq_b2 (pass_w g2.1.1.1.1.1 g2.1.1.1.1.2 110 12 10 (by decide) rfl (by decide +kernel)) (fun r s3 r' t3 g3 => ?_)))
  rw [b183_e]
  obtain ⟨⟨D1, C1⟩, g5, g6⟩ := g
  obtain ⟨⟨D2, C2⟩, k5, k6⟩ := g2
  refine og_k hM g3 (fun w3 => ?_)
  obtain ⟨D3, C3⟩ := dy_st w3 D2
  refine rm_b (rq_b2 (house_d D3 (cc := 75) (Or.inr rfl) a (b + 1) ha (row_p (j := 1) hb hx 1 rfl (by decide))) (fun r s4 r' t4 g4 => ?_))
  rw [b183_e]
  refine og_k hM g4 (fun g4 => rm_s ?_)
  obtain ⟨⟨D4, C4⟩, q5, q6⟩ := g4
  have m0 : t4.1 1 (2030 + 6 * x) = 20 := by rw [chm C4 _ (by omega), C3.2, chm C2 _ (by omega), chm C1 _ (by omega), hm]
  have m2 : t4.1 1 (2030 + 6 * x + 2) = t2.1 1 (2030 + 6 * x + 2) := by rw [chm C4 _ (by omega), C3.2]
  have m3 : t4.1 1 (2030 + 6 * x + 3) = t1.1 1 (2030 + 6 * x + 3) := by rw [chm C4 _ (by omega), C3.2, chm C2 _ (by omega)]
  have c72 : s4.1 72 x = s.1 72 x := by rw [ch72 C4 72 (by decide) (by decide) (by decide), C3.1 72 (by decide) (by decide), ch72 C2 72 (by decide) (by decide) (by decide), ch72 C1 72 (by decide) (by decide) (by decide)]
  have hp1 := tk_pos D1.1.1.1
  have hp2 := tk_pos D2.1.1.1
  have hp3 := tk_pos D3.1.1.1
  have hp4 := w3.2.2.2
  refine hk s4 t4 ⟨D4, ⟨Or.inr (Or.inl ⟨c72.trans hw, m0, ?_, ?_, C4.1⟩), ?_⟩, by omega, c72⟩ c72
  · show s4.1 73 x = t4.1 1 (2030 + 6 * x + 3)
    rw [ch72 C4 73 (by decide) (by decide) (by decide), C3.1 73 (by decide) (by decide), ch72 C2 73 (by decide) (by decide) (by decide), m3, C1.1]
  · show s4.1 74 x = t4.1 1 (2030 + 6 * x + 2)
    rw [ch72 C4 74 (by decide) (by decide) (by decide), C3.1 74 (by decide) (by decide), m2, C2.1]
  · unfold VdR
    rw [m0, m2, m3]
    refine vd_20 ?_ k5 ?_
    · rw [chm C4 0 (by omega), chm C4 9 (by omega)]
      exact q5
    · rw [chm C4 3 (by omega), C3.2, chm C2 3 (by omega), chm C1 3 (by omega)]
      exact g5
theorem rwa_n {w th nu ho te m0 m1 m2 m3 m5 : Int32} (h : RwA w th nu ho te m0 m1 m2 m3 m5) (nb : ¬ (w = 124 ∨ w = 128 ∨ w = 129)) : ¬ Blk m0 ∧ ¬ m0 = 26 := by
  unfold Blk
  rcases h with ⟨-, z, -⟩ | ⟨-, z, -⟩ | ⟨-, z, -⟩ | ⟨-, z, -⟩ | ⟨-, z, -⟩ | ⟨-, z⟩ | ⟨z, -⟩ | ⟨z, -⟩ | ⟨-, z⟩ | ⟨z, -⟩
  all_goals first | exact absurd (Or.inl z) nb | exact absurd (Or.inr (Or.inl z)) nb | exact absurd (Or.inr (Or.inr z)) nb | (rw [z]; decide)
theorem rwa_b {w th nu ho te m0 m1 m2 m3 m5 : Int32} (h : RwA w th nu ho te m0 m1 m2 m3 m5) (hb : w = 124 ∨ w = 128) : Blk m0 := by
  unfold Blk
  have h1 : ∀ v : Int32, w = v → ¬ v = 124 → ¬ v = 128 → False := fun v y y1 y2 => hb.elim (fun z => y1 (y.symm.trans z)) (fun z => y2 (y.symm.trans z))
  rcases h with ⟨z, -⟩ | ⟨z, -⟩ | ⟨z, -⟩ | ⟨z, -⟩ | ⟨z, -⟩ | ⟨z, -⟩ | ⟨-, z, -⟩ | ⟨z, -⟩ | ⟨z, -⟩ | ⟨-, -, ⟨-, z⟩ | ⟨-, z⟩ | ⟨-, -, -, z⟩⟩
  · exact (h1 _ z (by decide) (by decide)).elim
  · exact (h1 _ z (by decide) (by decide)).elim
  · exact (h1 _ z (by decide) (by decide)).elim
  · exact (h1 _ z (by decide) (by decide)).elim
  · exact (h1 _ z (by decide) (by decide)).elim
  · exact (h1 _ z (by decide) (by decide)).elim
  · exact Or.inl z
  · exact (h1 _ z (by decide) (by decide)).elim
  · exact (h1 _ z (by decide) (by decide)).elim
  · exact Or.inr (Or.inl z)
  · exact Or.inr (Or.inr (Or.inl z))
  · exact Or.inr (Or.inr (Or.inr z))
/-- the row is done: nothing is open by it, or it is pushed -/
theorem row_k {n : Nat} {x : Nat} {s t : Sg} (h : DyR n 0 1 x s t) (w : RwR 51 2030 s (t.1 1) x ∧ VdR 2030 (t.1 1) x) (nb : ¬ (s.1 72 x = 124 ∨ s.1 72 x = 128 ∨ s.1 72 x = 129)) : DyR n 0 0 (x + 1) s t := by
  obtain ⟨h1, ⟨h2, ⟨h3, h3'⟩, h4, h5⟩, ⟨h7, h9⟩, h8⟩ := h
  refine ⟨h1, ⟨h2, ⟨by omega, h3'⟩, h4, h5⟩, ⟨fun d hd => ⟨(h7 d hd).1, (h7 d hd).2.1, by have := (h7 d hd).2.2; omega⟩, fun z => absurd z (by decide), ns_k h9.2 (rwa_n w.1 nb).1 (rwa_n w.1 nb).2⟩, fun k hk => ?_⟩
  by_cases z : k = x
  · subst z
    exact ⟨w, fun z => absurd z nb⟩
  · exact h8 k (by omega)
theorem row_b {n : Nat} {x : Nat} {s t : Sg} (h : DyR n 1 1 x s t) (w : RwR 51 2030 s (t.1 1) x ∧ VdR 2030 (t.1 1) x) (hb : s.1 72 x = 124 ∨ s.1 72 x = 128) (v : Int32) (hv : v.toInt = (x : Int)) : DyR n 0 0 (x + 1) s (pI (pI t 8 ((t.1 0 22).toNatClampNeg) v) 0 22 ((t.1 0 22) + 1)) := by
  obtain ⟨⟨⟨h1, h1'⟩, hP, hN⟩, ⟨h2, ⟨h3, h3'⟩, h4, h5⟩, ⟨h7, h9⟩, h8⟩ := h
  have e1 : (1 : Int32).toInt = 1 := rfl
  have eD : ((t.1 0 22) + 1).toInt = (t.1 0 22).toInt + 1 := i_addx _ _ (by omega)
  have cl := cl_nat (t.1 0 22)
  have eq1 : (pI (pI t 8 ((t.1 0 22).toNatClampNeg) v) 0 22 ((t.1 0 22) + 1)).1 1 = t.1 1 := by rw [pI_o _ _ _ _ _ (by decide), pI_o _ _ _ _ _ (by decide)]
  have e22 : (pI (pI t 8 ((t.1 0 22).toNatClampNeg) v) 0 22 ((t.1 0 22) + 1)).1 0 22 = (t.1 0 22) + 1 := q_eq
  have e23 : (pI (pI t 8 ((t.1 0 22).toNatClampNeg) v) 0 22 ((t.1 0 22) + 1)).1 0 23 = t.1 0 23 := by rw [pI_1, if_neg (by decide), q_nc rfl]
  have e18 : (pI (pI t 8 ((t.1 0 22).toNatClampNeg) v) 0 22 ((t.1 0 22) + 1)).1 0 18 = t.1 0 18 := by rw [pI_1, if_neg (by decide), q_nc rfl]
  have e8 : ∀ d, (pI (pI t 8 ((t.1 0 22).toNatClampNeg) v) 0 22 ((t.1 0 22) + 1)).1 8 d = if d = (t.1 0 22).toNatClampNeg then v else t.1 8 d := fun d => by
    rw [q_nc rfl, pI_1]
    by_cases z : d = (t.1 0 22).toNatClampNeg
    · rw [if_pos ⟨rfl, z⟩, if_pos z]
    · rw [if_neg (fun y => z y.2), if_neg z]
  have tk2 : TkRel n s (pI (pI t 8 ((t.1 0 22).toNatClampNeg) v) 0 22 ((t.1 0 22) + 1)) := tk_f (L1 := 0) (L2 := 2 ^ 42) (tk_f (L1 := 0) (L2 := 2 ^ 8) h1 fr_r (fr_x 8 rfl) rfl (m_and rfl)) fr_r (fr_x 42 rfl) rfl (m_and rfl)
  refine ⟨⟨⟨tk2, e18.trans h1'⟩, ?_, ?_⟩, ⟨?_, ⟨?_, ?_⟩, ?_, ?_⟩, ⟨fun d hd => ?_, fun z => absurd z (by decide), ?_⟩, fun k hk => ?_⟩
  · rw [eq1]; exact hP
  · rw [eq1]; exact hN
  · rw [eq1, e22, e23]
    exact ⟨h2.1, h2.2.1, by omega, h2.2.2.2⟩
  · rw [eq1]; omega
  · rw [eq1, e22, e23]; omega
  · rw [e23]; exact h4
  · rw [e22]; omega
  · rw [e22] at hd
    rw [e8]
    by_cases z : d = (t.1 0 22).toNatClampNeg
    · rw [if_pos z]
      have y := h9.1 rfl
      rw [show (t.1 0 22).toInt.toNat = d by omega] at y
      exact ⟨Int32.toInt_inj.mp (y.trans hv.symm), by omega, by omega⟩
    · rw [if_neg z]
      have y := h7 d (by omega)
      exact ⟨y.1, y.2.1, by omega⟩
  · unfold NsR
    rw [eq1, e22, eD]
    exact ns_b h9.2 (rwa_b w.1 hb) hv (by omega : (t.1 0 22).toInt = ((t.1 0 22).toNatClampNeg : Int)) e8
  · rw [eq1]
    by_cases z : k = x
    · subst z
      refine ⟨w, fun _ y => ?_⟩
      have y2 := y (t.1 0 22).toNatClampNeg (by rw [e22]; omega)
      rw [e8, if_pos rfl] at y2
      exact absurd hv y2
    · obtain ⟨z1, z2⟩ := h8 k (by omega)
      refine ⟨z1, fun y1 y2 => ?_⟩
      rw [eq1]
      refine z2 y1 (fun d hd => ?_)
      have y3 := y2 d (by rw [e22]; omega)
      rw [e8, if_neg (by omega)] at y3
      exact y3
