/-! closest, most -/
theorem cl_b41 {α : Type} {oC : Option (α × Sg)} {R : α → Sg → Int32 → Sg → Prop} {K : Int32 → Int32 → Int32 → Sg → Option (Int32 × Sg)} {t : Sg} (b0 : 0 ≤ (t.1 1 0).toInt ∧ (t.1 1 0).toInt ≤ 8) (b1 : 0 ≤ (t.1 1 1).toInt ∧ (t.1 1 1).toInt ≤ 8) {v1 v2 v3 : Int32} (h : RQ oC (if v1 = -1 then K v3 (laQ (t.1 1) ((1 : Int32) <<< (v3 &&& 31))) (v3 + 1) t else if laQ (t.1 1) ((1 : Int32) <<< (v3 &&& 31)) < v2 then K v3 (laQ (t.1 1) ((1 : Int32) <<< (v3 &&& 31))) (v3 + 1) t else K v1 v2 (v3 + 1) t) R) (m : Nat) : ∀ (i : Nat) (v4 v5 : Int32), v5.toInt = (i : Int) → (i : Int) ≤ (t.1 1 0).toInt → v4 = la (t.1 1) ((1 : Int32) <<< (v3 &&& 31)) i → RQ oC (f_X12_closest_b41 K m v1 v2 v3 v4 v5 t) R := by
  induction m with
  | zero => intro i v4 v5 _ _ _ r s' r' t' _ z; cases z
  | succ m ih =>
    intro i v4 v5 h5 hi h4
    have e1 : (1 : Int32).toInt = 1 := rfl
    unfold f_X12_closest_b41
    by_cases c : t.1 1 0 ≤ v5
    · rw [if_pos c]
      have c := i_le c
      have z : i = (t.1 1 0).toInt.toNat := by omega
      have e : v4 = laQ (t.1 1) ((1 : Int32) <<< (v3 &&& 31)) := by
        rw [h4, z]
        rfl
      rw [e]
      exact h
    · rw [if_neg c]
      have c := i_nle c
      have a5 : (v5 + 1).toInt = ((i + 1 : Nat) : Int) := by rw [i_addx _ _ (by omega)]; omega
      refine rq_bM (gone_m h5 (by omega) t) (fun r9 t10 k => ?_)
      obtain ⟨et, k⟩ := k
      rw [et]
      refine rq_iM (fun d => rq_bM (lkon_m _ h5 (by omega) t b1) (fun r11 t12 l => ?_)) (fun d => ih (i + 1) _ (v5 + 1) a5 (by omega) ?_)
      · rw [l.1]
        refine ih (i + 1) _ (v5 + 1) a5 (by omega) ?_
        rw [la_s, if_neg (r1_n k d), h4, l.2]
      · rw [la_s, if_pos (r1_y k d), h4, add0]
theorem bit_hp {M : Nat → Int32} {v : Int32} {q : Nat} (hv : v.toInt = (q : Int)) (hq : q < 32) (n : ¬ NvP M q) : HpF M ((1 : Int32) <<< (v &&& 31)) := fun x hx w => by
  have e : ((1 : Int32) <<< (v &&& 31)) = 0 ||| ((1 : Int32) <<< (v &&& 31)) := bt_ext (fun i _ => by rw [bt_or, bt_0, Bool.false_or])
  have b := w.1
  rw [e] at b
  rcases (or_bit hv hq x).mp b with z | z
  · rw [bt_0] at z
    exact absurd z (by decide)
  · rw [z] at w
    exact n w.2.2
theorem clo_b {t : Sg} {x7 : Int32} (m : Nat) : ∀ (m' i : Nat) (v2 v3 v4 : Int32) (s : Sg), NowG 0 s t → (∀ x, x < 32 → (bt x7 x = true ↔ (((x : Int) < (t.1 1 1).toInt ∧ ¬ pcB (t.1 1) (-1) x = true) ∧ ¬ NvP (t.1 1) x))) → v4.toInt = (i : Int) → (i : Int) ≤ (t.1 1 1).toInt → RQ (f_X11_closest_b40 m x7 v2 v3 v4 s) (f_X12_closest_b6 m' v2 v3 v4 t) AnQ := by
  induction m with
  | zero => intro m' i v2 v3 v4 s _ _ _ _ r s' r' t' z; cases z
  | succ m ih =>
    intro m' i v2 v3 v4 s H hx h4 hi
    cases m' with
    | zero => intro r s' r' t' _ z; cases z
    | succ m' =>
    have P := H.1.1
    have b0 := P.2.1.1
    have b1 := P.2.1.2.1
    have e24 : (t.1 0 24).toInt = -1 := e24_ H
    have e1 : (1 : Int32).toInt = 1 := rfl
    have eQ : s.1 25 14 = t.1 1 1 := P.1.2.1
    unfold f_X11_closest_b40 f_X12_closest_b6
    rw [eQ]
    refine rq_iC (fun c => rq_iM (fun _ => any_q s t v2) (fun d => absurd c d)) (fun c => rq_iM (fun d => absurd d c) (fun _ => ?_))
    have c := i_nle c
    have hi' : (i : Int) < (t.1 1 1).toInt := by omega
    have a4 : (v4 + 1).toInt = ((i + 1 : Nat) : Int) := by rw [i_addx _ _ (by omega)]; omega
    have sb := sh1_0 x7 v4 h4 (show i < 32 by omega)
    refine rq_bC (has_p x7 v4 s) (fun r10 s11 k => rq_bM (peace_m h4 (by omega) t (pln_q P hi').2.2.1) (fun r3 t4 l => ?_))
    obtain ⟨es, k⟩ := k
    obtain ⟨et, l⟩ := l
    rw [es, et]
    rw [e24] at l
    have hxi := hx i (by omega)
    refine rq_iC (fun d => ?_) (fun d => ?_)
    · have nb : ¬ bt x7 i = true := sb.mp (Classical.not_not.mp (r1_n k d))
      refine rq_iM (fun y => rq_bM (nev_m P h4 hi') (fun r5 t6 g => ?_)) (fun y => ih m' (i + 1) v2 v3 (v4 + 1) s H hx a4 (by omega))
      obtain ⟨et6, g⟩ := g
      rw [et6]
      refine rq_iM (fun w => ?_) (fun w => ih m' (i + 1) v2 v3 (v4 + 1) s H hx a4 (by omega))
      exact absurd (hxi.mpr ⟨⟨hi', r1_n l y⟩, r1_n g w⟩) nb
    · have hb : bt x7 i = true := Classical.byContradiction (fun z => r1_y k d (sb.mpr z))
      have hh := hxi.mp hb
      refine rq_iM (fun y => rq_bM (nev_m P h4 hi') (fun r5 t6 g => ?_)) (fun y => absurd (r1_y l y) hh.1.2)
      obtain ⟨et6, g⟩ := g
      rw [et6]
      refine rq_iM (fun w => ?_) (fun w => absurd (r1_y g w) hh.2)
      refine rq_bC (lof_c P H.1.2.1 ((1 : Int32) <<< (v4 &&& 31))) (fun r12 s13 f => ?_)
      have H' := ng_fx H f.1
      have e12 : r12 = laQ (t.1 1) ((1 : Int32) <<< (v4 &&& 31)) := by
        rcases f.2 with z | z
        · exact z.2
        · exact absurd (bit_hp h4 (by omega) hh.2) z.1
      rw [e12]
      refine cl_b41 b0 b1 ?_ BIG 0 0 0 rfl b0.1 rfl
      refine rq_iC (fun z => rq_iM (fun _ => ih m' (i + 1) _ _ (v4 + 1) s13 H' hx a4 (by omega)) (fun z' => absurd z z')) (fun z => rq_iM (fun z' => absurd z' z) (fun _ => ?_))
      refine rq_iC (fun y => rq_iM (fun y' => ?_) (fun _ => ih m' (i + 1) _ _ (v4 + 1) s13 H' hx a4 (by omega))) (fun y => rq_iM (fun _ => ih m' (i + 1) _ _ (v4 + 1) s13 H' hx a4 (by omega)) (fun y' => ?_))
      · exfalso
        have := i_le y
        have := i_lt y'
        omega
      · exfalso
        have := i_nle y
        have := i_nlt y'
        omega
theorem closest_q {s t : Sg} (H : NowG 0 s t) : RQ (f_X11_closest s) (f_X12_closest t) AnQ := by
  have P := H.1.1
  unfold f_X11_closest f_X12_closest
  refine rq_bC (allq_c P) (fun r1 s2 k1 => ?_)
  obtain ⟨es, k1⟩ := k1
  rw [es]
  refine rq_bC (peac_c P H.2.2.1 H.1.2.1 (-1)) (fun r3 s4 k3 => ?_)
  obtain ⟨es4, k3⟩ := k3
  rw [es4]
  refine rq_bC (wh_c P) (fun r5 s6 k5 => rq_nC (fun x7 e7 => ?_))
  obtain ⟨es6, k5⟩ := k5
  rw [es6]
  refine clo_b BIG BIG 0 (-1) 0 0 s H (fun x hx => ?_) rfl P.2.1.2.1.1
  have a1 := k1 x hx
  have a3 := k3 x hx
  have a5 := k5 x hx
  have em : (-1 : Int32).toInt = -1 := rfl
  rw [em] at a3
  rw [e7, bt_and, bt_and, bt_not r3 hx, bt_not r5 hx]
  cases z1 : bt r1 x with
  | false =>
    rw [z1] at a1
    exact ⟨fun w => absurd w (by simp), fun w => absurd (a1.mpr w.1.1) (by decide)⟩
  | true =>
    cases z3 : bt r3 x with
    | true =>
      rw [z3] at a3
      exact ⟨fun w => absurd w (by simp), fun w => absurd (a3.mp rfl).2 w.1.2⟩
    | false =>
      cases z5 : bt r5 x with
      | true =>
        rw [z5] at a5
        exact ⟨fun w => absurd w (by simp), fun w => absurd (a5.mp rfl).2 w.2⟩
      | false =>
        refine ⟨fun _ => ⟨⟨a1.mp z1, fun y => ?_⟩, fun y => ?_⟩, fun _ => rfl⟩
        · exact absurd (z3.symm.trans (a3.mpr ⟨a1.mp z1, y⟩)) (by decide)
        · exact absurd (z5.symm.trans (a5.mpr ⟨a1.mp z1, y⟩)) (by decide)
/-! how many of a set -/
theorem kb_n : ∀ n, n < 256 → ¬ n = 0 → (Int32.ofNat n &&& (Int32.ofNat n - 1)) = Int32.ofNat (n &&& (n - 1)) ∧ bcV (Int32.ofNat n) = 1 + bcV (Int32.ofNat (n &&& (n - 1))) ∧ (n &&& (n - 1)) < 256 := by decide +kernel
theorem bcv_0 : bcV 0 = 0 := by decide +kernel
theorem bits_b (t : Sg) (m : Nat) : ∀ (n : Nat) (v1 v2 : Int32), n < 256 → v2 = Int32.ofNat n → PQ (f_X12_bits_b4 m v1 v2 t) (fun r t' => t' = t ∧ r = v1 + bcV v2) := by
  induction m with
  | zero => intro n v1 v2 _ _ r t' z; cases z
  | succ m ih =>
    intro n v1 v2 hn h2
    unfold f_X12_bits_b4
    refine pq_if (fun c => pq_s ⟨rfl, ?_⟩) (fun c => ?_)
    · rw [c, bcv_0, add0]
    · have w := kb_n n hn (fun z => c (by rw [h2, z]; rfl))
      refine pq_w (ih (n &&& (n - 1)) (v1 + 1) _ w.2.2 (by rw [h2]; exact w.1)) (fun r t' k => ⟨k.1, ?_⟩)
      rw [k.2, h2, w.1, w.2.1, Int32.add_assoc]
theorem bits_m {a : Int32} (h : 0 ≤ a.toInt ∧ a.toInt < 256) (t : Sg) : PQ (f_X12_bits a t) (fun r t' => t' = t ∧ r = bcV a) := by
  unfold f_X12_bits
  refine pq_w (bits_b t BIG a.toInt.toNat 0 a (by omega) (Int32.toInt_inj.mp (by rw [Int32.toInt_ofNat_of_lt (by omega)]; omega))) (fun r t' k => ⟨k.1, ?_⟩)
  rw [k.2, Int32.add_comm, add0]
/-! most -/
def EnF (M : Nat → Int32) (a : Int32) : Prop := ∀ h : Nat, (h : Int) < (M 0).toInt → ¬ bt (M 9) h = true → naQ M a h ≤ sgM M h
theorem cb_b {a : Int32} {t : Sg} (b0 : 0 ≤ (t.1 1 0).toInt ∧ (t.1 1 0).toInt ≤ 8) (b1 : 0 ≤ (t.1 1 1).toInt ∧ (t.1 1 1).toInt ≤ 8) (m : Nat) : ∀ (i : Nat) (v2 : Int32), v2.toInt = (i : Int) → (i : Int) ≤ (t.1 1 0).toInt → (∀ h : Nat, h < i → ¬ bt (t.1 1 9) h = true → naQ (t.1 1) a h ≤ sgM (t.1 1) h) → PQ (f_X12_couldBe_b14 m a v2 t) (fun r t' => t' = t ∧ Fl (EnF (t.1 1) a) r) := by
  induction m with
  | zero => intro i v2 _ _ _ r t' z; cases z
  | succ m ih =>
    intro i v2 h2 hi hz
    have e1 : (1 : Int32).toInt = 1 := rfl
    unfold f_X12_couldBe_b14
    refine pq_if (fun c => pq_s ⟨rfl, Or.inl ⟨rfl, fun h hh g => hz h (by have := i_le c; omega) g⟩⟩) (fun c => ?_)
    have c := i_nle c
    have a2 : (v2 + 1).toInt = ((i + 1 : Nat) : Int) := by rw [i_addx _ _ (by omega)]; omega
    have x := hr_x h2 (show i < 8 by omega)
    refine pq_b (gone_m h2 (by omega) t) (fun r3 t4 k => ?_)
    obtain ⟨et, k⟩ := k
    rw [et]
    refine pq_if (fun d => pq_b (needq_m a h2 t b1) (fun r5 t6 k5 => ?_)) (fun d => ih (i + 1) (v2 + 1) a2 (by omega) (fun h hh g => ?_))
    · obtain ⟨et6, k5⟩ := k5
      rw [et6]
      have ng := r1_n k d
      have st : naQ (t.1 1) a i ≤ sgM (t.1 1) i → ∀ h : Nat, h < i + 1 → ¬ bt (t.1 1 9) h = true → naQ (t.1 1) a h ≤ sgM (t.1 1) h := fun w h hh g => by
        by_cases z : h = i
        · rw [z]; exact w
        · exact hz h (by omega) g
      refine pq_b (hr_p v2 t) (fun r7 t8 l => pq_c (fun _ => ?_))
      obtain ⟨et8, l⟩ := l
      rw [et8, l, x.2.2, k5]
      refine pq_if (fun y => pq_b (grains_m h2 (by omega) t) (fun r10 t11 l2 => ?_)) (fun y => ?_)
      · have sg : sgM (t.1 1) i = lyM (t.1 1) i := by unfold sgM; rw [if_pos y]
        rw [l2.1, l2.2, ← sg]
        exact pq_if (fun z => ih (i + 1) (v2 + 1) a2 (by omega) (st z)) (fun z => pq_s ⟨rfl, Or.inr ⟨rfl, fun w => z (w i (by omega) ng)⟩⟩)
      · have sg : sgM (t.1 1) i = 0 := by unfold sgM; rw [if_neg y]
        exact pq_if (fun z => ih (i + 1) (v2 + 1) a2 (by omega) (st (by rw [sg]; exact z))) (fun z => pq_s ⟨rfl, Or.inr ⟨rfl, fun w => z (by have q := w i (by omega) ng; rw [sg] at q; exact q)⟩⟩)
    · by_cases z : h = i
      · exact absurd (by rw [z]; exact r1_y k d) g
      · exact hz h (by omega) g
theorem cb_m {s t : Sg} (P : PlnR 24 s (t.1 1)) (a : Int32) : PQ (f_X12_couldBe a t) (fun r t' => t' = t ∧ Fl (HpF (t.1 1) a ∧ EnF (t.1 1) a) r) := by
  unfold f_X12_couldBe
  refine pq_b (so_p P.2.1.2.1 (soh_3 P)) (fun r1 t2 l => ?_)
  obtain ⟨et, l⟩ := l
  rw [et]
  refine pq_if (fun c => pq_w (cb_b P.2.1.1 P.2.1.2.1 BIG 0 0 rfl P.2.1.1.1 (fun h hh => absurd hh (Nat.not_lt_zero _))) (fun r t' k => ⟨k.1, ?_⟩)) (fun c => pq_s ⟨rfl, Or.inr ⟨rfl, fun w => c ((and0_ l).mpr w.1)⟩⟩)
  rcases k.2 with w | w
  · exact Or.inl ⟨w.1, (and0_ l).mp c, w.2⟩
  · exact Or.inr ⟨w.1, fun z => w.2 z.2⟩
theorem en_b {s : Sg} {M : Nat → Int32} (P : PlnR 24 s M) (G : GrdT 0 s M) {a : Int32} (ha : ∀ h, h < 8 → s.1 20 h = naQ M a h) (m : Nat) : ∀ (i : Nat) (v4 : Int32), v4.toInt = (i : Int) → (i : Int) ≤ (M 0).toInt → (∀ h : Nat, h < i → ¬ bt (M 9) h = true → naQ M a h ≤ sgM M h) → PQ (f_X0_isEnough_25_26_b9 m v4 s) (fun r s' => s' = s ∧ Fl (EnF M a) r) := by
  induction m with
  | zero => intro i v4 _ _ _ r t' z; cases z
  | succ m ih =>
    intro i v4 h4 hi hz
    have b0 := P.2.1.1
    have e1 : (1 : Int32).toInt = 1 := rfl
    have eN : s.1 25 13 = M 0 := Int32.toInt_inj.mp (by have q : (s.1 25 13).toInt = (M 0).toInt + 0 := P.1.1; omega)
    unfold f_X0_isEnough_25_26_b9
    rw [eN]
    refine pq_if (fun c => pq_s ⟨rfl, Or.inl ⟨rfl, fun h hh g => hz h (by have := i_le c; omega) g⟩⟩) (fun c => ?_)
    have c := i_nle c
    have a4 : (v4 + 1).toInt = ((i + 1 : Nat) : Int) := by rw [i_addx _ _ (by omega)]; omega
    refine pq_b (gone_c P h4 (by omega)) (fun r3 s4 k => ?_)
    obtain ⟨es, k⟩ := k
    rw [es]
    refine pq_if (fun d => pq_c (fun _ => pq_b (sight_c G h4 (by omega)) (fun r6 s7 l => ?_))) (fun d => ih (i + 1) (v4 + 1) a4 (by omega) (fun h hh g => ?_))
    · have ng := r1_n k d
      rw [l.1, l.2, cl_h h4, ha i (by omega)]
      refine pq_if (fun z => ih (i + 1) (v4 + 1) a4 (by omega) (fun h hh g => ?_)) (fun z => pq_s ⟨rfl, Or.inr ⟨rfl, fun w => z (w i (by omega) ng)⟩⟩)
      by_cases y : h = i
      · rw [y]; exact z
      · exact hz h (by omega) g
    · by_cases z : h = i
      · exact absurd (by rw [z]; exact r1_y k d) g
      · exact hz h (by omega) g
theorem en_c {s : Sg} {M : Nat → Int32} (P : PlnR 24 s M) (G : GrdT 0 s M) (a : Int32) : PQ (f_X0_isEnough_25_26 a s) (fun r u => Fx s u ∧ Fl (EnF M a) r) := by
  unfold f_X0_isEnough_25_26
  refine pq_b (ask_c P a) (fun _ u k => ?_)
  exact pq_w (en_b (pl_fx P k.1) (gt_fx G k.1) k.2 BIG 0 0 rfl P.2.1.1.1 (fun h hh => absurd hh (Nat.not_lt_zero _))) (fun r s' w => ⟨by rw [w.1]; exact k.1, w.2⟩)
theorem mo_b {t : Sg} {w3 : Int32} (hw : ∀ x, x < 32 → (bt w3 x = true ↔ ((x : Int) < (t.1 1 1).toInt ∧ NvP (t.1 1) x))) (m : Nat) : ∀ (m' : Nat) (v4 v5 v6 : Int32) (s : Sg), NowG 0 s t → (0 ≤ v4.toInt ∧ v4.toInt < 256) → v5 = bcV v4 → (0 ≤ v6.toInt ∧ v6.toInt ≤ ((1 : Int32) <<< (t.1 1 1 &&& 31)).toInt) → RQ (bd (f_X0_greatest_25_26_b14 m w3 v4 v5 v6 s) (fun r1 s2 => bd (f_X11_answer r1 s2) (fun r3 s4 => some (r3, s4)))) (f_X12_most_b4 m' v4 v6 t) AnQ := by
  induction m with
  | zero => intro m' v4 v5 v6 s _ _ _ _ r s' r' t' z; cases z
  | succ m ih =>
    intro m' v4 v5 v6 s H h4 h5 h6
    cases m' with
    | zero => intro r s' r' t' _ z; cases z
    | succ m' =>
    have P := H.1.1
    have xb := shq_x P.2.1.2.1
    have e1 : (1 : Int32).toInt = 1 := rfl
    have eQ : s.1 25 14 = t.1 1 1 := P.1.2.1
    have xs : (((1 : Int32) <<< (t.1 1 1 &&& 31)) - 1).toInt = ((1 : Int32) <<< (t.1 1 1 &&& 31)).toInt - (1 : Int32).toInt := i_subx _ _ (by omega)
    unfold f_X0_greatest_25_26_b14 f_X12_most_b4 f_X4_allQuarrels
    rw [eQ, bd_bd]
    refine rq_bC (P := fun r s' => s' = s ∧ r = ((1 : Int32) <<< (t.1 1 1 &&& 31)) - 1) (pq_s ⟨rfl, rfl⟩) (fun r3 s4 k => ?_)
    obtain ⟨es, k⟩ := k
    rw [es, k]
    refine rq_iK (fun c => rq_iM (fun _ => aq_an s t rfl) (fun d => ?_)) (fun c => rq_iM (fun d => ?_) (fun _ => ?_))
    · exfalso
      have c := i_lt c
      have d := i_nle d
      omega
    · exfalso
      have c := i_nlt c
      have d := i_le d
      omega
    · have c := i_nlt c
      have a6 : (v6 + 1).toInt = v6.toInt + (1 : Int32).toInt := i_addx _ _ (by omega)
      rw [bd_bd]
      refine rq_bC (bc_p v6 s) (fun r5 s6 k5 => rq_bM (bits_m (by omega) t) (fun r3' t4 l3 => ?_))
      obtain ⟨es6, k5⟩ := k5
      obtain ⟨et4, l3⟩ := l3
      rw [es6, et4]
      refine rq_bM (bits_m h4 t) (fun r5' t6 l5 => ?_)
      obtain ⟨et6, l5⟩ := l5
      rw [et6, k5, l3, l5, h5]
      refine rq_iK (fun d => rq_iM (fun _ => ih m' v4 _ (v6 + 1) s H h4 rfl (by omega)) (fun z => absurd d z)) (fun d => rq_iM (fun z => absurd z d) (fun _ => rq_bM (cb_m P v6) (fun r7 t8 l7 => ?_)))
      obtain ⟨et8, l7⟩ := l7
      rw [et8]
      refine rq_iK (fun y => ?_) (fun y => ?_)
      · have hp := (and0_ hw).mp y
        rw [bd_bd]
        refine rq_bC (en_c P H.1.2.1 v6) (fun r7c s8 k7 => ?_)
        have H' := ng_fx H k7.1
        refine rq_iK (fun z => rq_iM (fun _ => ih m' v4 _ (v6 + 1) s8 H' h4 rfl (by omega)) (fun z' => absurd (r1_y l7 z').2 (r1_n k7.2 z))) (fun z => rq_iM (fun z' => absurd ⟨hp, r1_y k7.2 z⟩ (r1_n l7 z')) (fun _ => ih m' v6 _ (v6 + 1) s8 H' (by omega) rfl (by omega)))
      · refine rq_iM (fun _ => ih m' v4 _ (v6 + 1) s H h4 rfl (by omega)) (fun z' => absurd ((and0_ hw).mpr (r1_y l7 z').1) y)
theorem most_q {s t : Sg} (H : NowG 0 s t) : RQ (f_X11_most s) (f_X12_most t) AnQ := by
  have P := H.1.1
  have xb := shq_x P.2.1.2.1
  have e1 : (1 : Int32).toInt = 1 := rfl
  unfold f_X11_most f_X12_most f_X0_greatest_25_26
  rw [bd_bd]
  refine rq_bC (wh_c P) (fun r1 s2 k => ?_)
  obtain ⟨es, k⟩ := k
  rw [es]
  exact mo_b k BIG BIG 0 0 1 s H ⟨by decide, by decide⟩ bcv_0.symm (by omega)
