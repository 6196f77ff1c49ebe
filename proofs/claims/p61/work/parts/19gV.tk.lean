/-! small steps of both sides -/
theorem if1 {α : Type} {a b : α} : (if (1 : Int32) = 0 then a else b) = b := if_neg i10
theorem if0 {α : Type} {a b : α} : (if (0 : Int32) = 0 then a else b) = a := if_pos rfl
theorem cl_h {a : Int32} {h : Nat} (ha : a.toInt = (h : Int)) : a.toNatClampNeg = h := by
  have := cl_nat a
  omega
theorem hr_x {a : Int32} {h : Nat} (ha : a.toInt = (h : Int)) (hh : h < 8) : (16 + 3 * a).toNatClampNeg = 16 + 3 * h ∧ ((16 + 3 * a) + 1).toNatClampNeg = 17 + 3 * h ∧ ((16 + 3 * a) + 2).toNatClampNeg = 18 + 3 * h := by
  have e3 : (3 : Int32).toInt = 3 := rfl
  have e16 : (16 : Int32).toInt = 16 := rfl
  have e1 : (1 : Int32).toInt = 1 := rfl
  have e2 : (2 : Int32).toInt = 2 := rfl
  have m1 : (3 * a).toInt = 3 * a.toInt := i_mulx 3 a (show -2147483648 ≤ 3 * a.toInt ∧ 3 * a.toInt ≤ 2147483647 from by omega)
  have x1 : (16 + 3 * a).toInt = (16 : Int32).toInt + (3 * a).toInt := i_addx _ _ (by omega)
  have x2 : ((16 + 3 * a) + 1).toInt = (16 + 3 * a).toInt + (1 : Int32).toInt := i_addx _ _ (by omega)
  have x3 : ((16 + 3 * a) + 2).toInt = (16 + 3 * a).toInt + (2 : Int32).toInt := i_addx _ _ (by omega)
  exact ⟨cl_h (by omega), cl_h (by omega), cl_h (by omega)⟩
theorem gx_x {a : Int32} {g : Nat} (ha : a.toInt = (g : Int)) (hg : g < 4) : (92 + 3 * a).toNatClampNeg = 92 + 3 * g ∧ ((92 + 3 * a) + 1).toNatClampNeg = 93 + 3 * g ∧ ((92 + 3 * a) + 2).toNatClampNeg = 94 + 3 * g := by
  have e3 : (3 : Int32).toInt = 3 := rfl
  have e16 : (92 : Int32).toInt = 92 := rfl
  have e1 : (1 : Int32).toInt = 1 := rfl
  have e2 : (2 : Int32).toInt = 2 := rfl
  have m1 : (3 * a).toInt = 3 * a.toInt := i_mulx 3 a (show -2147483648 ≤ 3 * a.toInt ∧ 3 * a.toInt ≤ 2147483647 from by omega)
  have x1 : (92 + 3 * a).toInt = (92 : Int32).toInt + (3 * a).toInt := i_addx _ _ (by omega)
  have x2 : ((92 + 3 * a) + 1).toInt = (92 + 3 * a).toInt + (1 : Int32).toInt := i_addx _ _ (by omega)
  have x3 : ((92 + 3 * a) + 2).toInt = (92 + 3 * a).toInt + (2 : Int32).toInt := i_addx _ _ (by omega)
  exact ⟨cl_h (by omega), cl_h (by omega), cl_h (by omega)⟩
theorem cx_x {a : Int32} {c : Nat} (ha : a.toInt = (c : Int)) (hc : c < 4) : (80 + 3 * a).toNatClampNeg = 80 + 3 * c ∧ ((80 + 3 * a) + 1).toNatClampNeg = 81 + 3 * c ∧ ((80 + 3 * a) + 2).toNatClampNeg = 82 + 3 * c := by
  have e3 : (3 : Int32).toInt = 3 := rfl
  have e16 : (80 : Int32).toInt = 80 := rfl
  have e1 : (1 : Int32).toInt = 1 := rfl
  have e2 : (2 : Int32).toInt = 2 := rfl
  have m1 : (3 * a).toInt = 3 * a.toInt := i_mulx 3 a (show -2147483648 ≤ 3 * a.toInt ∧ 3 * a.toInt ≤ 2147483647 from by omega)
  have x1 : (80 + 3 * a).toInt = (80 : Int32).toInt + (3 * a).toInt := i_addx _ _ (by omega)
  have x2 : ((80 + 3 * a) + 1).toInt = (80 + 3 * a).toInt + (1 : Int32).toInt := i_addx _ _ (by omega)
  have x3 : ((80 + 3 * a) + 2).toInt = (80 + 3 * a).toInt + (2 : Int32).toInt := i_addx _ _ (by omega)
  exact ⟨cl_h (by omega), cl_h (by omega), cl_h (by omega)⟩
theorem hr_p (a : Int32) (t : Sg) : PQ (f_X12_houseRow a t) (fun r t' => t' = t ∧ r = 16 + 3 * a) := pq_s ⟨rfl, rfl⟩
def lyM (M : Nat → Int32) (h : Nat) : Int32 := M (16 + 3 * h) + M (17 + 3 * h)
theorem grains_m {a : Int32} {h : Nat} (ha : a.toInt = (h : Int)) (hh : h < 8) (t : Sg) : PQ (f_X12_grainsOn a t) (fun r t' => t' = t ∧ r = lyM (t.1 1) h) := by
  have x := hr_x ha hh
  unfold f_X12_grainsOn
  refine pq_b (hr_p a t) (fun r1 t2 g => pq_c (fun _ => pq_b (hr_p a t2) (fun r4 t5 k => pq_c (fun _ => pq_s ?_))))
  obtain ⟨e1, g⟩ := g
  obtain ⟨e2, k⟩ := k
  rw [e2, e1, g, k, x.1, x.2.1]
  exact ⟨rfl, rfl⟩
theorem gone_c {M : Nat → Int32} {s : Sg} (P : PlnR 24 s M) {a : Int32} {h : Nat} (ha : a.toInt = (h : Int)) (hh : h < 32) : PQ (f_X4_isGone a s) (fun r s' => s' = s ∧ Fl (bt (M 9) h = true) r) := by
  unfold f_X4_isGone
  have e : s.1 25 17 = M 9 := P.2.2.1.1
  rw [e]
  exact pq_f0 (sh1_0 (M 9) a ha hh)
theorem gone_m {a : Int32} {h : Nat} (ha : a.toInt = (h : Int)) (hh : h < 32) (t : Sg) : PQ (f_X12_isGone a t) (fun r t' => t' = t ∧ Fl (bt (t.1 1 9) h = true) r) := by
  unfold f_X12_isGone
  exact pq_fl (sh1_1 (t.1 1 9) a ha hh)
def HsM (M : Nat → Int32) (a : Int32) : Prop := 0 ≤ a.toInt ∧ a.toInt < (M 0).toInt
theorem isH_c {M : Nat → Int32} {s : Sg} (P : PlnR 24 s M) (a : Int32) : PQ (f_X11_isHouse a s) (fun r s' => s' = s ∧ Fl (HsM M a) r) := by
  have e : (s.1 25 13).toInt = (M 0).toInt + 0 := P.1.1
  have b := P.2.1.1
  have e0 : (0 : Int32).toInt = 0 := rfl
  have e1 : (1 : Int32).toInt = 1 := rfl
  have sb := i_sub (s.1 25 13) 1
  unfold f_X11_isHouse
  refine pq_b (wi_p a 0 ((s.1 25 13) - 1) s) (fun r s2 g => pq_c (fun _ => pq_s ⟨g.1, ?_⟩))
  unfold Fl HsM
  rcases g.2 with q | q
  · exact Or.inl ⟨q.1, by omega, by omega⟩
  · exact Or.inr ⟨q.1, by omega⟩
theorem isH_m (a : Int32) (t : Sg) : PQ (f_X12_isHouse a t) (fun r t' => t' = t ∧ Fl (HsM (t.1 1) a) r) := by
  have e0 : (0 : Int32).toInt = 0 := rfl
  unfold f_X12_isHouse Fl HsM
  refine pq_if (fun c => pq_s ⟨rfl, Or.inr ⟨rfl, ?_⟩⟩) (fun c => pq_if (fun d => pq_s ⟨rfl, Or.inr ⟨rfl, ?_⟩⟩) (fun d => pq_s ⟨rfl, Or.inl ⟨rfl, ?_⟩⟩))
  · have := i_lt c
    omega
  · have := i_le d
    omega
  · have := i_nlt c
    have := i_nle d
    omega
/-- why there is no such step: 1, 7, or 0 -/
def Wn (M : Nat → Int32) (a : Int32) (P : Prop) (r : Int32) : Prop := (r = 1 ∧ ¬ (HsM M a ∧ P)) ∨ (r = 7 ∧ (HsM M a ∧ P) ∧ bt (M 9) a.toInt.toNat = true) ∨ (r = 0 ∧ (HsM M a ∧ P) ∧ ¬ bt (M 9) a.toInt.toNat = true)
theorem hs_n {M : Nat → Int32} {a : Int32} (b : (M 0).toInt ≤ 8) (h : HsM M a) : a.toInt = (a.toInt.toNat : Int) ∧ a.toInt.toNat < 8 := by
  unfold HsM at h
  omega
theorem whyNo_c {M : Nat → Int32} {s : Sg} (P : PlnR 24 s M) (a f : Int32) {Q : Prop} (hf : Fl Q f) : PQ (f_X11_whyNoStep a f s) (fun r s' => s' = s ∧ Wn M a Q r) := by
  unfold f_X11_whyNoStep
  refine pq_b (isH_c P a) (fun r1 s2 g => ?_)
  obtain ⟨es, g⟩ := g
  subst es
  refine pq_if (fun c => pq_s ⟨rfl, Or.inl ⟨rfl, fun w => r1_n g c w.1⟩⟩) (fun c => pq_if (fun d => pq_s ⟨rfl, Or.inl ⟨rfl, fun w => r1_n hf d w.2⟩⟩) (fun d => ?_))
  have hh := r1_y g c
  have hq := r1_y hf d
  have n := hs_n P.2.1.1.2 hh
  refine pq_b (gone_c P n.1 (by omega)) (fun r3 s4 k => ?_)
  obtain ⟨es, k⟩ := k
  subst es
  exact pq_if (fun e => pq_s ⟨rfl, Or.inr (Or.inr ⟨rfl, ⟨hh, hq⟩, r1_n k e⟩)⟩) (fun e => pq_s ⟨rfl, Or.inr (Or.inl ⟨rfl, ⟨hh, hq⟩, r1_y k e⟩)⟩)
theorem wrong_m (a : Int32) {t : Sg} (b : (t.1 1 0).toInt ≤ 8) : PQ (f_X12_wrongStep a t) (fun r t' => t' = t ∧ Wn (t.1 1) a True r) := by
  unfold f_X12_wrongStep
  refine pq_b (isH_m a t) (fun r1 s2 g => ?_)
  obtain ⟨es, g⟩ := g
  subst es
  refine pq_if (fun c => pq_s ⟨rfl, Or.inl ⟨rfl, fun w => r1_n g c w.1⟩⟩) (fun c => ?_)
  have hh := r1_y g c
  have n := hs_n b hh
  refine pq_b (gone_m n.1 (by omega) s2) (fun r3 s4 k => ?_)
  obtain ⟨es, k⟩ := k
  subst es
  exact pq_if (fun e => pq_s ⟨rfl, Or.inr (Or.inr ⟨rfl, ⟨hh, trivial⟩, r1_n k e⟩)⟩) (fun e => pq_s ⟨rfl, Or.inr (Or.inl ⟨rfl, ⟨hh, trivial⟩, r1_y k e⟩)⟩)
theorem rq_wn {α β : Type} {M : Nat → Int32} {a : Int32} {oC oM : Option (Int32 × Sg)} {s t : Sg} {kC : Int32 → Sg → Option (α × Sg)} {kM : Int32 → Sg → Option (β × Sg)} {R : α → Sg → β → Sg → Prop} (h : PQ oC (fun r s' => s' = s ∧ Wn M a True r)) (g : PQ oM (fun r t' => t' = t ∧ Wn M a True r)) (h1 : RQ (kC 1 s) (kM 1 t) R) (h7 : HsM M a → bt (M 9) a.toInt.toNat = true → RQ (kC 7 s) (kM 7 t) R) (h0 : HsM M a → ¬ bt (M 9) a.toInt.toNat = true → RQ (kC 0 s) (kM 0 t) R) : RQ (bd oC kC) (bd oM kM) R := by
  refine rq_bC h (fun r s' x => rq_bM g (fun r' t' y => ?_))
  obtain ⟨es, x⟩ := x
  obtain ⟨et, y⟩ := y
  subst es; subst et
  rcases x with x | x | x <;> rcases y with y | y | y
  · rw [x.1, y.1]; exact h1
  · exact absurd y.2.1 x.2
  · exact absurd y.2.1 x.2
  · exact absurd x.2.1 y.2
  · rw [x.1, y.1]; exact h7 x.2.1.1 x.2.2
  · exact absurd x.2.2 y.2.2
  · exact absurd x.2.1 y.2
  · exact absurd y.2.2 x.2.2
  · rw [x.1, y.1]; exact h0 x.2.1.1 x.2.2
/-- the same answer, the same status, the same street -/
def AnS (r : Int32) (s : Sg) (r' : Int32) (t : Sg) : Prop := r = r' ∧ s.1 0 15 = t.1 0 2 ∧ NowG 0 s t
theorem ref_r {s t : Sg} (h : NowG 0 s t) (w : Int32) : RQ (bd (f_X11_refuse w s) (fun r s => some (r, s))) (bd (f_X12_refuse w t) (fun r t => some (r, t))) AnS := by
  have q : RQ (some ((-1 : Int32), pI s 0 15 w)) (some ((-1 : Int32), pI t 0 2 w)) AnS := rq_s ⟨rfl, by rw [q_eq, q_eq], ng_k h (fun c hc => pI_o _ _ _ _ _ (by omega)) (fun k _ => q_nc rfl) (q_ne rfl)⟩
  exact q
theorem ans_r {s t : Sg} (h : NowG 0 s t) {v v' : Int32} (e : v = v') : RQ (bd (f_X11_answer v s) (fun r s => some (r, s))) (bd (f_X12_gives v' t) (fun r t => some (r, t))) AnS := by
  have q : RQ (some (v, pI s 0 15 0)) (some (v', pI t 0 2 0)) AnS := rq_s ⟨e, by rw [q_eq, q_eq], ng_k h (fun c hc => pI_o _ _ _ _ _ (by omega)) (fun k _ => q_nc rfl) (q_ne rfl)⟩
  exact q
theorem from_m (g lo hi : Int32) (t : Sg) : PQ (f_X12_isFrom g.toInt64 lo.toInt64 hi.toInt64 t) (fun r t' => t' = t ∧ Fl (lo.toInt ≤ g.toInt ∧ g.toInt ≤ hi.toInt) r) := by
  refine pq_w (if_p _ _ _ t) (fun r t' w => ⟨w.1, ?_⟩)
  have e1 : g.toInt64.toInt = g.toInt := Int32.toInt_toInt64 g
  have e2 : lo.toInt64.toInt = lo.toInt := Int32.toInt_toInt64 lo
  have e3 : hi.toInt64.toInt = hi.toInt := Int32.toInt_toInt64 hi
  rw [e1, e2, e3] at w
  exact w.2
theorem ly_c {M : Nat → Int32} {s : Sg} (G : GrdT 0 s M) {a : Int32} {h : Nat} (ha : a.toInt = (h : Int)) (hh : h < 8) : PQ (f_X2_lying a s) (fun r s' => s' = s ∧ r = lyM M h) := by
  have e1 : s.1 40 h = M (16 + 3 * h) := G 40 h _ (Or.inl ⟨hh, Or.inl ⟨rfl, rfl⟩⟩)
  have e2 : s.1 41 h = M (17 + 3 * h) := G 41 h _ (Or.inl ⟨hh, Or.inr (Or.inl ⟨rfl, rfl⟩)⟩)
  unfold f_X2_lying
  refine pq_c (fun _ => pq_s ⟨rfl, ?_⟩)
  rw [cl_h ha, e1, e2]
  rfl
theorem room_c {M : Nat → Int32} {s : Sg} (G : GrdT 0 s M) {a : Int32} {h : Nat} (ha : a.toInt = (h : Int)) (hh : h < 8) (g : Int32) : PQ (f_X2_hasRoom a g s) (fun r s' => s' = s ∧ Fl (¬ 9999 < lyM M h + g) r) := by
  unfold f_X2_hasRoom
  refine pq_b (ly_c G ha hh) (fun r s2 e => ?_)
  obtain ⟨es, e⟩ := e
  subst es; subst e
  exact pq_f0 ⟨fun w z => z w, fun w => Classical.byContradiction w⟩
theorem addSalt_c {a : Int32} {h : Nat} (ha : a.toInt = (h : Int)) (g : Int32) (s : Sg) : PQ (f_X2_addSalt a g s) (fun _ s' => s' = pI (pI s 40 h (s.1 40 h + g)) 26 9 (s.1 26 9 + g)) := by
  unfold f_X2_addSalt
  refine pq_c (fun _ => pq_n (fun s2 e => pq_s ?_))
  rw [e, q_nc rfl, cl_h ha]
theorem ly_cz {M : Nat → Int32} {s : Sg} (G : GrdT 27 s M) {a : Int32} {h : Nat} (ha : a.toInt = (h : Int)) (hh : h < 8) : PQ (f_X2_lying_53 a s) (fun r s' => s' = s ∧ r = lyM M h) := by
  have e1 : s.1 67 h = M (16 + 3 * h) := G 67 h _ (Or.inl ⟨hh, Or.inl ⟨rfl, rfl⟩⟩)
  have e2 : s.1 68 h = M (17 + 3 * h) := G 68 h _ (Or.inl ⟨hh, Or.inr (Or.inl ⟨rfl, rfl⟩)⟩)
  unfold f_X2_lying_53
  refine pq_c (fun _ => pq_s ⟨rfl, ?_⟩)
  rw [cl_h ha, e1, e2]
  rfl
theorem room_cz {M : Nat → Int32} {s : Sg} (G : GrdT 27 s M) {a : Int32} {h : Nat} (ha : a.toInt = (h : Int)) (hh : h < 8) (g : Int32) : PQ (f_X2_hasRoom_53 a g s) (fun r s' => s' = s ∧ Fl (¬ 9999 < lyM M h + g) r) := by
  unfold f_X2_hasRoom_53
  refine pq_b (ly_cz G ha hh) (fun r s2 e => ?_)
  obtain ⟨es, e⟩ := e
  subst es; subst e
  exact pq_f0 ⟨fun w z => z w, fun w => Classical.byContradiction w⟩
theorem addSalt_cz {a : Int32} {h : Nat} (ha : a.toInt = (h : Int)) (g : Int32) (s : Sg) : PQ (f_X2_addSalt_53 a g s) (fun _ s' => s' = pI (pI s 67 h (s.1 67 h + g)) 53 9 (s.1 53 9 + g)) := by
  unfold f_X2_addSalt_53
  refine pq_c (fun _ => pq_n (fun s2 e => pq_s ?_))
  rw [e, q_nc rfl, cl_h ha]
theorem room_m {a : Int32} {h : Nat} (ha : a.toInt = (h : Int)) (hh : h < 8) (g : Int32) (t : Sg) : PQ (f_X12_hasRoom a g t) (fun r t' => t' = t ∧ Fl (¬ 9999 < lyM (t.1 1) h + g) r) := by
  unfold f_X12_hasRoom
  refine pq_b (grains_m ha hh t) (fun r s2 e => ?_)
  obtain ⟨es, e⟩ := e
  subst es; subst e
  exact pq_f0 ⟨fun w z => z w, fun w => Classical.byContradiction w⟩
theorem strews_m {a : Int32} {h : Nat} (ha : a.toInt = (h : Int)) (hh : h < 8) (g : Int32) (t : Sg) : PQ (f_X12_strews a g t) (fun _ t' => t' = pI (pI t 1 (16 + 3 * h) (t.1 1 (16 + 3 * h) + g)) 1 5 (t.1 1 5 + g)) := by
  have x := hr_x ha hh
  unfold f_X12_strews
  refine pq_b (hr_p a t) (fun r t2 e => pq_c (fun _ => pq_n (fun t4 f => pq_s ?_)))
  obtain ⟨et, e⟩ := e
  subst et
  rw [f, e, x.1, pI_1, if_neg (fun z => by have := z.2; omega)]
theorem add_r {s t : Sg} (H : NowG 0 s t) {a : Int32} {h : Nat} (ha : a.toInt = (h : Int)) (hh : h < 8) (hg : ¬ bt (t.1 1 9) h = true) (g : Int32) : RQ (f_X2_addSalt a g s) (f_X12_strews a g t) (fun _ s' _ t' => NowG 0 s' t' ∧ t'.1 1 9 = t.1 1 9) := by
  refine rq_pp (addSalt_c ha g s) (strews_m ha hh g t) (fun _ s' _ t' es et => ?_)
  have e1 : s.1 40 h = t.1 1 (16 + 3 * h) := H.1.2.1 40 h _ (Or.inl ⟨hh, Or.inl ⟨rfl, rfl⟩⟩)
  have e2 : s.1 26 9 = t.1 1 5 := H.1.2.1 26 9 5 (Or.inr (Or.inr ⟨rfl, by omega⟩))
  rw [es, et, e1, e2]
  refine ⟨ng_i (by omega) (ng_i (by omega) H (Or.inl ⟨hh, Or.inl ⟨rfl, rfl⟩⟩) (fun z => by omega) (fun x hx z b => ?_)) (Or.inr (Or.inr ⟨rfl, by omega⟩)) (fun z => absurd z (by decide)) (fun x hx z => absurd z (by omega)), ?_⟩
  · have q : x = h := by omega
    subst q
    exact absurd b hg
  · rw [q_ne rfl, pI_1, if_neg (fun z => by have := z.2; omega)]
theorem add_rz {s t : Sg} (H : NowG 27 s t) {a : Int32} {h : Nat} (ha : a.toInt = (h : Int)) (hh : h < 8) (hg : ¬ bt (t.1 1 9) h = true) (g : Int32) : RQ (f_X2_addSalt_53 a g s) (f_X12_strews a g t) (fun _ s' _ t' => NowG 27 s' t' ∧ t'.1 1 9 = t.1 1 9) := by
  refine rq_pp (addSalt_cz ha g s) (strews_m ha hh g t) (fun _ s' _ t' es et => ?_)
  have e1 : s.1 67 h = t.1 1 (16 + 3 * h) := H.1.2.1 67 h _ (Or.inl ⟨hh, Or.inl ⟨rfl, rfl⟩⟩)
  have e2 : s.1 53 9 = t.1 1 5 := H.1.2.1 53 9 5 (Or.inr (Or.inr ⟨rfl, by omega⟩))
  rw [es, et, e1, e2]
  refine ⟨ng_i (by omega) (ng_i (by omega) H (Or.inl ⟨hh, Or.inl ⟨rfl, rfl⟩⟩) (fun z => by omega) (fun x hx z b => ?_)) (Or.inr (Or.inr ⟨rfl, by omega⟩)) (fun z => absurd z (by decide)) (fun x hx z => absurd z (by omega)), ?_⟩
  · have q : x = h := by omega
    subst q
    exact absurd b hg
  · rw [q_ne rfl, pI_1, if_neg (fun z => by have := z.2; omega)]
theorem strew_r {s t : Sg} (H : NowG 0 s t) (a g : Int32) : RQ (f_X11_strew a g s) (f_X12_strew a g t) AnS := by
  have e1 : (1 : Int32).toInt = 1 := rfl
  have e999 : (999 : Int32).toInt = 999 := rfl
  unfold f_X11_strew f_X12_strew
  refine rq_f (P := (1 : Int32).toInt ≤ g.toInt ∧ g.toInt ≤ (999 : Int32).toInt) (wi_p g 1 999 s) (from_m g 1 999 t) Iff.rfl (fun hy => ?_) (fun hn => ?_)
  · rw [if1]
    refine rq_wn (whyNo_c H.1.1 a 1 (Or.inl ⟨rfl, trivial⟩)) (wrong_m a H.1.1.2.1.1.2) ?_ (fun hh hg => ?_) (fun hh hg => ?_)
    · unfold f_X12_strew_b21
      rw [if1, if_pos (show (1 : Int32) = 1 from rfl)]
      exact ref_r H 1
    · have n := hs_n H.1.1.2.1.1.2 hh
      have z := H.2.2.2 _ n.2 hg
      unfold f_X12_strew_b21
      rw [if_neg (show ¬ (7 : Int32) = 0 by decide), if_neg (show ¬ (7 : Int32) = 1 by decide)]
      refine rq_bM (room_m n.1 n.2 g t) (fun r t2 k => ?_)
      obtain ⟨et, k⟩ := k
      subst et
      rcases k with k | k
      · rw [k.1, if1, if_pos rfl]
        exact ref_r H 7
      · exfalso
        refine k.2 (fun w => ?_)
        have w := i_lt w
        have e : lyM (t2.1 1) a.toInt.toNat + g = g := by
          unfold lyM
          rw [z.1, z.2.1]
          apply Int32.toInt_inj.mp
          have e0 : ((0 : Int32) + 0) = 0 := rfl
          rw [e0, i_addx 0 g (by have e0 : (0 : Int32).toInt = 0 := rfl; omega)]
          have e0 : (0 : Int32).toInt = 0 := rfl
          omega
        rw [e] at w
        have e9 : (9999 : Int32).toInt = 9999 := rfl
        omega
    · have n := hs_n H.1.1.2.1.1.2 hh
      unfold f_X12_strew_b21
      rw [if0, if_neg (show ¬ (0 : Int32) = 1 by decide)]
      refine rq_f (room_c H.1.2.1 n.1 n.2 g) (room_m n.1 n.2 g t) Iff.rfl (fun _ => ?_) (fun _ => ?_)
      · rw [if1, if1, if_neg (show ¬ (0 : Int32) = 7 by decide)]
        refine rq_b2 (add_r H n.1 n.2 hg g) (fun _ s10 _ t12 k => rq_cC (fun _ => rq_bM (hr_p a t12) (fun r13 t14 e => rq_cM (fun _ => ?_))))
        obtain ⟨et, e⟩ := e
        subst et
        rw [e, (hr_x n.1 n.2).1, cl_h n.1]
        exact ans_r k.1 (k.1.1.2.1 40 _ _ (Or.inl ⟨n.2, Or.inl ⟨rfl, rfl⟩⟩))
      · rw [if0, if0]
        exact ref_r H 4
  · rw [if0]
    refine rq_bC (whyNo_c H.1.1 a 0 (Q := False) (Or.inr ⟨rfl, fun z => z⟩)) (fun r s2 k => ?_)
    obtain ⟨es, k⟩ := k
    subst es
    unfold f_X12_strew_b21
    rw [if_pos (show (1 : Int32) = 1 from rfl)]
    rcases k with k | k | k
    · rw [k.1, if1]
      exact ref_r H 1
    · exact k.2.1.2.elim
    · exact k.2.1.2.elim
