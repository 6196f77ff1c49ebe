/-! what a set asks for: lack, closest, most, freed -/
def na (M : Nat → Int32) (a : Int32) (h : Nat) : Nat → Int32
  | 0 => 0
  | n + 1 => if bt a n = true ∧ atB M n h = true then na M a h n + M (42 + 5 * n) else na M a h n
theorem na_s (M : Nat → Int32) (a : Int32) (h n : Nat) : na M a h (n + 1) = if bt a n = true ∧ atB M n h = true then na M a h n + M (42 + 5 * n) else na M a h n := rfl
def naQ (M : Nat → Int32) (a : Int32) (h : Nat) : Int32 := na M a h (M 1).toInt.toNat
theorem nda_b {a b : Int32} {h : Nat} (hb : b.toInt = (h : Int)) (t : Sg) (b1 : 0 ≤ (t.1 1 1).toInt ∧ (t.1 1 1).toInt ≤ 8) (m : Nat) : ∀ (i : Nat) (v3 v4 : Int32), v4.toInt = (i : Int) → (i : Int) ≤ (t.1 1 1).toInt → v3 = na (t.1 1) a h i → PQ (f_X12_needAt_b5 m a b v3 v4 t) (fun r t' => t' = t ∧ r = naQ (t.1 1) a h) := by
  induction m with
  | zero => intro i v3 v4 _ _ _ r t' z; cases z
  | succ m ih =>
    intro i v3 v4 h4 hi h3
    have e1 : (1 : Int32).toInt = 1 := rfl
    unfold f_X12_needAt_b5
    refine pq_if (fun c => pq_s ⟨rfl, ?_⟩) (fun c => ?_)
    · have c := i_le c
      have z : i = (t.1 1 1).toInt.toNat := by omega
      rw [h3, z]
      rfl
    · have c := i_nle c
      have a4 : (v4 + 1).toInt = ((i + 1 : Nat) : Int) := by rw [i_addx _ _ (by omega)]; omega
      have x := qr_x h4 (show i < 8 by omega)
      have sb := sh1_1 a v4 h4 (show i < 32 by omega)
      refine pq_if (fun d => pq_b (isAt_m h4 (by omega) hb t) (fun r1 t2 k => ?_)) (fun d => ih (i + 1) (v3 + 0) (v4 + 1) a4 (by omega) ?_)
      · obtain ⟨et, k⟩ := k
        rw [et]
        refine pq_if (fun y => ih (i + 1) (v3 + 0) (v4 + 1) a4 (by omega) ?_) (fun y => pq_b (qrow_p v4 t) (fun r3 t4 l => pq_c (fun _ => pq_n (fun x6 e6 => ?_))))
        · rw [na_s, if_neg (fun z => r1_n k y z.2), add0, h3]
        · obtain ⟨et2, l⟩ := l
          rw [et2]
          refine ih (i + 1) x6 (v4 + 1) a4 (by omega) ?_
          rw [na_s, if_pos ⟨sb.mp d, r1_y k y⟩, e6, et2, l, x.2.2.1, h3]
      · rw [na_s, if_neg (fun z => d (sb.mpr z.1)), add0, h3]
theorem needq_m (a : Int32) {b : Int32} {h : Nat} (hb : b.toInt = (h : Int)) (t : Sg) (b1 : 0 ≤ (t.1 1 1).toInt ∧ (t.1 1 1).toInt ≤ 8) : PQ (f_X12_needAt a b t) (fun r t' => t' = t ∧ r = naQ (t.1 1) a h) := by
  unfold f_X12_needAt
  exact nda_b hb t b1 BIG 0 0 0 rfl b1.1 rfl
def lkV (M : Nat → Int32) (a : Int32) (h : Nat) : Int32 := if 0 < (naQ M a h - lyM M h) then (naQ M a h - lyM M h) else 0
theorem lkon_m (a : Int32) {b : Int32} {h : Nat} (hb : b.toInt = (h : Int)) (hh : h < 8) (t : Sg) (b1 : 0 ≤ (t.1 1 1).toInt ∧ (t.1 1 1).toInt ≤ 8) : PQ (f_X12_lackOn a b t) (fun r t' => t' = t ∧ r = lkV (t.1 1) a h) := by
  unfold f_X12_lackOn lkV
  refine pq_b (needq_m a hb t b1) (fun r1 t2 k => ?_)
  obtain ⟨et, k⟩ := k
  rw [et]
  refine pq_b (grains_m hb hh t) (fun r3 t4 l => pq_s ⟨l.1, ?_⟩)
  rw [k, l.2]
/-- all but the row 20 -/
def Fx (s u : Sg) : Prop := ∀ c, ¬ c = 20 → u.1 c = s.1 c
theorem fx_p {s u : Sg} (h : Fx s u) (k : Nat) (v : Int32) : Fx s (pI u 20 k v) := fun c hc => by
  rw [← h c hc]
  funext j
  rw [pI_1, if_neg (fun z => hc z.1)]
theorem fx_t {s u w : Sg} (h : Fx s u) (g : Fx u w) : Fx s w := fun c hc => (g c hc).trans (h c hc)
theorem fx_r (s : Sg) : Fx s s := fun _ _ => rfl
theorem ng_fx {s u t : Sg} (H : NowG 0 s t) (h : Fx s u) : NowG 0 u t := ng_k H (fun c hc => h c (by omega)) (fun _ _ => rfl) rfl
theorem pl_fx {s u : Sg} {M : Nat → Int32} (P : PlnR 24 s M) (h : Fx s u) : PlnR 24 u M := pln_g P (fun k _ _ => congrFun (h 25 (by decide)) k) (fun i k i1 i2 _ => congrFun (h (24 + i) (by omega)) k) (fun _ _ => rfl)
theorem gt_fx {s u : Sg} {M : Nat → Int32} (G : GrdT 0 s M) (h : Fx s u) : GrdT 0 u M := fun c k p g => (congrFun (h c (by unfold Gp at g; omega)) k).trans (G c k p g)
theorem clr_b (s : Sg) (m : Nat) : ∀ (i : Nat) (v1 : Int32) (u : Sg), v1.toInt = (i : Int) → i ≤ 8 → Fx s u → (∀ h, h < i → u.1 20 h = 0) → PQ (f_X11_clearRow_20_b2 m v1 u) (fun _ u' => Fx s u' ∧ ∀ h, h < 8 → u'.1 20 h = 0) := by
  induction m with
  | zero => intro i v1 u _ _ _ _ r t' z; cases z
  | succ m ih =>
    intro i v1 u h1 hi hf hz
    have e1 : (1 : Int32).toInt = 1 := rfl
    have e8 : (8 : Int32).toInt = 8 := rfl
    unfold f_X11_clearRow_20_b2
    refine pq_if (fun c => pq_s ⟨hf, fun h hh => hz h (by have := i_le c; omega)⟩) (fun c => pq_c (fun _ => ?_))
    have c := i_nle c
    refine ih (i + 1) (v1 + 1) _ (by rw [i_addx _ _ (by omega)]; omega) (by omega) (fx_p hf _ _) (fun h hh => ?_)
    rw [pI_1, cl_h h1]
    by_cases z : h = i
    · rw [if_pos ⟨rfl, z⟩]
    · rw [if_neg (fun y => z y.2)]
      exact hz h (by omega)
theorem ask_b {s : Sg} {M : Nat → Int32} (P : PlnR 24 s M) {a : Int32} (m : Nat) : ∀ (i : Nat) (v3 : Int32) (u : Sg), v3.toInt = (i : Int) → (i : Int) ≤ (M 1).toInt → Fx s u → (∀ h, h < 8 → u.1 20 h = na M a h i) → PQ (f_X0_askFor_25_b9 m a v3 u) (fun _ u' => Fx s u' ∧ ∀ h, h < 8 → u'.1 20 h = naQ M a h) := by
  induction m with
  | zero => intro i v3 u _ _ _ _ r t' z; cases z
  | succ m ih =>
    intro i v3 u h3 hi hf hz
    have e1 : (1 : Int32).toInt = 1 := rfl
    have b1 := P.2.1.2.1
    have eQ : u.1 25 14 = M 1 := (congrFun (hf 25 (by decide)) 14).trans P.1.2.1
    unfold f_X0_askFor_25_b9
    rw [eQ]
    refine pq_if (fun c => pq_s ⟨hf, fun h hh => ?_⟩) (fun c => pq_b (has_p a v3 u) (fun r3 u4 k => ?_))
    · have c := i_le c
      have z : i = (M 1).toInt.toNat := by omega
      rw [hz h hh, z]
      rfl
    · obtain ⟨eu, k⟩ := k
      rw [eu]
      have c := i_nle c
      have hi' : (i : Int) < (M 1).toInt := by omega
      have pq := pln_q P hi'
      have en := ends_h P hi'
      have a3 : (v3 + 1).toInt = ((i + 1 : Nat) : Int) := by rw [i_addx _ _ (by omega)]; omega
      have o31 : u.1 31 i = M (40 + 5 * i) := (congrFun (hf 31 (by decide)) i).trans pq.2.1.1
      have o33 : u.1 33 i = M (42 + 5 * i) := (congrFun (hf 33 (by decide)) i).trans pq.2.1.2.2
      have sb := sh1_0 a v3 h3 (show i < 32 by omega)
      refine pq_if (fun d => ih (i + 1) (v3 + 1) u a3 (by omega) hf (fun h hh => ?_)) (fun d => pq_c (fun _ => pq_c (fun _ => pq_n (fun s7 e7 => pq_c (fun _ => pq_n (fun s9 e9 => ?_))))))
      · rw [na_s, if_neg (fun z => sb.mp (Classical.not_not.mp (r1_n k d)) z.1)]
        exact hz h hh
      · have hb : bt a i = true := Classical.byContradiction (fun z => r1_y k d (sb.mpr z))
        rw [cl_h h3, o31, o33, cl_h en.1.1] at e7
        have f7 : Fx s s7 := by rw [e7]; exact fx_p hf _ _
        have p32 : s7.1 32 i = M (41 + 5 * i) := (congrFun (f7 32 (by decide)) i).trans pq.2.1.2.1
        have p33 : s7.1 33 i = M (42 + 5 * i) := (congrFun (f7 33 (by decide)) i).trans pq.2.1.2.2
        rw [cl_h h3, p32, p33, cl_h en.1.2] at e9
        refine ih (i + 1) (v3 + 1) s9 a3 (by omega) (by rw [e9]; exact fx_p f7 _ _) (fun h hh => ?_)
        rw [e9, pI_1]
        by_cases z1 : h = h1 M i
        · rw [if_pos ⟨rfl, z1⟩, e7, pI_1, if_neg (fun y => en.2.2.2.1 y.2.symm), hz _ en.2.1.2, na_s, if_pos ⟨hb, (at_h P hi').mpr (Or.inr z1)⟩, z1]
        · rw [if_neg (fun y => z1 y.2), e7, pI_1]
          by_cases z0 : h = h0 M i
          · rw [if_pos ⟨rfl, z0⟩, hz _ en.2.1.1, na_s, if_pos ⟨hb, (at_h P hi').mpr (Or.inl z0)⟩, z0]
          · rw [if_neg (fun y => z0 y.2), hz h hh, na_s, if_neg (fun y => ((at_h P hi').mp y.2).elim z0 z1)]
theorem ask_c {s : Sg} {M : Nat → Int32} (P : PlnR 24 s M) (a : Int32) : PQ (f_X0_askFor_25 a s) (fun _ u => Fx s u ∧ ∀ h, h < 8 → u.1 20 h = naQ M a h) := by
  unfold f_X0_askFor_25 f_X11_clearRow_20
  exact pq_b (clr_b s BIG 0 0 s rfl (by decide) (fx_r s) (fun h hh => absurd hh (Nat.not_lt_zero _))) (fun _ u k => ask_b P BIG 0 0 u rfl P.2.1.2.1.1 k.1 (fun h hh => k.2 h hh))
theorem lkst_c {s : Sg} {M : Nat → Int32} (P : PlnR 24 s M) (G : GrdT 0 s M) (a : Int32) {b : Int32} {h : Nat} (hb : b.toInt = (h : Int)) (hh : h < 8) : PQ (f_X0_lackOnStep_25_26 a b s) (fun r u => Fx s u ∧ r = lkV M a h) := by
  unfold f_X0_lackOnStep_25_26 lkV
  refine pq_b (ask_c P a) (fun _ u k => pq_c (fun _ => pq_b (ly_c (gt_fx G k.1) hb hh) (fun r4 s5 l => pq_s ⟨?_, ?_⟩)))
  · rw [l.1]; exact k.1
  · rw [cl_h hb, k.2 h hh, l.2]
def la (M : Nat → Int32) (a : Int32) : Nat → Int32
  | 0 => 0
  | n + 1 => if bt (M 9) n = true then la M a n else la M a n + lkV M a n
theorem la_s (M : Nat → Int32) (a : Int32) (n : Nat) : la M a (n + 1) = if bt (M 9) n = true then la M a n else la M a n + lkV M a n := rfl
def laQ (M : Nat → Int32) (a : Int32) : Int32 := la M a (M 0).toInt.toNat
theorem lof_b {s : Sg} {M : Nat → Int32} (P : PlnR 24 s M) (G : GrdT 0 s M) (a : Int32) (m : Nat) : ∀ (i : Nat) (v4 v5 : Int32) (u : Sg), v5.toInt = (i : Int) → (i : Int) ≤ (M 0).toInt → Fx s u → v4 = la M a i → PQ (f_X0_lackOf_25_26_b17 m a v4 v5 u) (fun r u' => Fx s u' ∧ r = laQ M a) := by
  induction m with
  | zero => intro i v4 v5 u _ _ _ _ r t' z; cases z
  | succ m ih =>
    intro i v4 v5 u h5 hi hf h4
    have e1 : (1 : Int32).toInt = 1 := rfl
    have b0 := P.2.1.1
    have P' := pl_fx P hf
    have eN : u.1 25 13 = M 0 := Int32.toInt_inj.mp (by have q : (u.1 25 13).toInt = (M 0).toInt + 0 := P'.1.1; omega)
    unfold f_X0_lackOf_25_26_b17
    rw [eN]
    refine pq_if (fun c => pq_s ⟨hf, ?_⟩) (fun c => ?_)
    · have c := i_le c
      have z : i = (M 0).toInt.toNat := by omega
      rw [h4, z]
      rfl
    · have c := i_nle c
      have a5 : (v5 + 1).toInt = ((i + 1 : Nat) : Int) := by rw [i_addx _ _ (by omega)]; omega
      refine pq_b (gone_c P' h5 (by omega)) (fun r3 u4 k => ?_)
      obtain ⟨eu, k⟩ := k
      rw [eu]
      refine pq_if (fun d => pq_b (lkst_c P' (gt_fx G hf) a h5 (by omega)) (fun r5 u6 l => ih (i + 1) _ (v5 + 1) u6 a5 (by omega) (fx_t hf l.1) ?_)) (fun d => ih (i + 1) v4 (v5 + 1) u a5 (by omega) hf ?_)
      · rw [la_s, if_neg (r1_n k d), h4, l.2]
      · rw [la_s, if_pos (r1_y k d), h4]
/-- no quarrel of the set is hopeless -/
def HpF (M : Nat → Int32) (a : Int32) : Prop := ∀ x : Nat, x < 32 → ¬ (bt a x = true ∧ (x : Int) < (M 1).toInt ∧ NvP M x)
theorem and0_ {a r : Int32} {M : Nat → Int32} (h : ∀ x, x < 32 → (bt r x = true ↔ ((x : Int) < (M 1).toInt ∧ NvP M x))) : (a &&& r) = 0 ↔ HpF M a := by
  constructor
  · intro e x hx w
    have q : bt (a &&& r) x = true := by rw [bt_and, w.1, (h x hx).mpr w.2]; rfl
    rw [e, bt_0] at q
    exact absurd q (by decide)
  · intro w
    refine bt_ext (fun x hx => ?_)
    rw [bt_0, bt_and]
    cases e1 : bt a x with
    | false => rfl
    | true =>
      cases e2 : bt r x with
      | false => rfl
      | true => exact absurd ⟨e1, (h x hx).mp e2⟩ (w x hx)
theorem lof_c {s : Sg} {M : Nat → Int32} (P : PlnR 24 s M) (G : GrdT 0 s M) (a : Int32) : PQ (f_X0_lackOf_25_26 a s) (fun r u => Fx s u ∧ ((HpF M a ∧ r = laQ M a) ∨ (¬ HpF M a ∧ r = -1))) := by
  unfold f_X0_lackOf_25_26
  refine pq_b (wh_c P) (fun r1 s2 k => ?_)
  obtain ⟨es, k⟩ := k
  rw [es]
  refine pq_if (fun c => pq_w (lof_b P G a BIG 0 0 0 s rfl P.2.1.1.1 (fx_r s) rfl) (fun r u w => ⟨w.1, Or.inl ⟨(and0_ k).mp c, w.2⟩⟩)) (fun c => pq_s ⟨fx_r s, Or.inr ⟨fun z => c ((and0_ k).mpr z), rfl⟩⟩)
theorem shq_b : ∀ n, n < 9 → 1 ≤ ((1 : Int32) <<< (Int32.ofNat n &&& 31)).toInt ∧ ((1 : Int32) <<< (Int32.ofNat n &&& 31)).toInt ≤ 256 := by decide +kernel
theorem shq_x {v : Int32} (b : 0 ≤ v.toInt ∧ v.toInt ≤ 8) : 1 ≤ ((1 : Int32) <<< (v &&& 31)).toInt ∧ ((1 : Int32) <<< (v &&& 31)).toInt ≤ 256 := by
  have e : v = Int32.ofNat v.toInt.toNat := of_nat (by omega) (by omega)
  rw [e]
  exact shq_b _ (by omega)
theorem iset_c {s : Sg} {M : Nat → Int32} (P : PlnR 24 s M) (a : Int32) : PQ (f_X11_isSet a s) (fun r s' => s' = s ∧ Fl (0 ≤ a.toInt ∧ a.toInt < ((1 : Int32) <<< (M 1 &&& 31)).toInt) r) := by
  unfold f_X11_isSet f_X4_allQuarrels
  have eQ : s.1 25 14 = M 1 := P.1.2.1
  have e0 : (0 : Int32).toInt = 0 := rfl
  have e1 : (1 : Int32).toInt = 1 := rfl
  rw [eQ]
  have xb := shq_x P.2.1.2.1
  have xs : (((1 : Int32) <<< (M 1 &&& 31)) - 1).toInt = ((1 : Int32) <<< (M 1 &&& 31)).toInt - (1 : Int32).toInt := i_subx _ _ (by omega)
  refine pq_b (P := fun r s' => s' = s ∧ r = ((1 : Int32) <<< (M 1 &&& 31)) - 1) (pq_s ⟨rfl, rfl⟩) (fun r1 s2 k => ?_)
  obtain ⟨es, k⟩ := k
  rw [es, k]
  refine pq_b (wi_p a 0 _ s) (fun r3 s4 l => pq_c (fun _ => pq_s ⟨l.1, ?_⟩))
  rcases l.2 with l | l
  · exact Or.inl ⟨l.1, by omega⟩
  · exact Or.inr ⟨l.1, fun z => l.2 (by omega)⟩
theorem iset_m (a : Int32) (t : Sg) : PQ (f_X12_isSetOf a t) (fun r t' => t' = t ∧ Fl (0 ≤ a.toInt ∧ a.toInt < ((1 : Int32) <<< (t.1 1 1 &&& 31)).toInt) r) := by
  unfold f_X12_isSetOf
  have e0 : (0 : Int32).toInt = 0 := rfl
  refine pq_if (fun c => pq_s ⟨rfl, Or.inr ⟨rfl, fun z => ?_⟩⟩) (fun c => pq_if (fun d => pq_s ⟨rfl, Or.inr ⟨rfl, fun z => ?_⟩⟩) (fun d => pq_s ⟨rfl, Or.inl ⟨rfl, ?_⟩⟩))
  · have c := i_lt c
    omega
  · have d := i_le d
    omega
  · have c := i_nlt c
    have d := i_nle d
    omega
theorem lck_b {s t : Sg} (H : NowG 0 s t) {a r5 : Int32} (w : r5 = laQ (t.1 1) a) (u : Sg) (m : Nat) : ∀ (i : Nat) (v2 v3 : Int32), v3.toInt = (i : Int) → (i : Int) ≤ (t.1 1 0).toInt → v2 = la (t.1 1) a i → RQ (bd (f_X11_answer r5 u) (fun r7 s8 => some (r7, s8))) (f_X12_lack_b34 m a v2 v3 t) AnQ := by
  induction m with
  | zero => intro i v2 v3 _ _ _ r s' r' t' _ z; cases z
  | succ m ih =>
    intro i v2 v3 h3 hi h2
    have e1 : (1 : Int32).toInt = 1 := rfl
    have b0 := H.1.1.2.1.1
    unfold f_X12_lack_b34
    refine rq_iM (fun c => ?_) (fun c => ?_)
    · have c := i_le c
      have z : i = (t.1 1 0).toInt.toNat := by omega
      refine aq_an u t ?_
      rw [w, h2, z]
      rfl
    · have c := i_nle c
      have a3 : (v3 + 1).toInt = ((i + 1 : Nat) : Int) := by rw [i_addx _ _ (by omega)]; omega
      refine rq_bM (gone_m h3 (by omega) t) (fun r9 t10 k => ?_)
      obtain ⟨et, k⟩ := k
      rw [et]
      refine rq_iM (fun d => rq_bM (lkon_m a h3 (by omega) t H.1.1.2.1.2.1) (fun r11 t12 l => ?_)) (fun d => ih (i + 1) _ (v3 + 1) a3 (by omega) ?_)
      · rw [l.1]
        refine ih (i + 1) _ (v3 + 1) a3 (by omega) ?_
        rw [la_s, if_neg (r1_n k d), h2, l.2]
      · rw [la_s, if_pos (r1_y k d), h2, add0]
theorem lack_q {s t : Sg} (H : NowG 0 s t) (a : Int32) : RQ (f_X11_lack a s) (f_X12_lack a t) AnQ := by
  have P := H.1.1
  unfold f_X11_lack f_X12_lack
  refine rq_f (iset_c P a) (iset_m a t) Iff.rfl (fun _ => ?_) (fun _ => ?_)
  · rw [if1, if1]
    refine rq_bC (lof_c P H.1.2.1 a) (fun r5 u k => rq_bM (so_p P.2.1.2.1 (soh_3 P)) (fun r5' t6 l => ?_))
    obtain ⟨et, l⟩ := l
    rw [et]
    rcases k.2 with y | y
    · rw [if_pos ((and0_ l).mpr y.1)]
      exact lck_b H y.2 u BIG 0 0 0 rfl P.2.1.1.1 rfl
    · rw [if_neg (fun z => y.1 ((and0_ l).mp z)), y.2]
      exact aq_an u t rfl
  · rw [if0, if0]
    exact aq_rf s t 1
/-! freed -/
theorem freed_q {s t : Sg} (H : NowG 0 s t) (a : Int32) : RQ (f_X11_freed a s) (f_X12_freed a t) AnQ := by
  have P := H.1.1
  have b1 := P.2.1.2.1
  have e24 : (t.1 0 24).toInt = -1 := e24_ H
  unfold f_X11_freed f_X12_freed
  refine rq_f (isQ_c P a) (isQ_m a t) Iff.rfl (fun hq => ?_) (fun _ => ?_)
  · rw [if1, if1]
    have n := q_n hq
    unfold f_X9_freedBy_26_25
    rw [bd_bd]
    refine rq_bC (peac_c P H.2.2.1 H.1.2.1 a) (fun r1 s2 k1 => ?_)
    obtain ⟨es, k1⟩ := k1
    rw [es, bd_bd]
    refine rq_bC (peac_c P H.2.2.1 H.1.2.1 (-1)) (fun r3 s4 k3 => ?_)
    obtain ⟨es2, k3⟩ := k3
    rw [es2]
    refine rq_bM (so_p b1 (soh_0 P)) (fun r5 t6 l5 => ?_)
    obtain ⟨et, l5⟩ := l5
    rw [et]
    have P2 : PlnR 24 s ((pI t 0 24 a).1 1) := pln_g P (fun _ _ _ => rfl) (fun _ _ _ _ _ => rfl) (fun k _ => by rw [q_nc rfl])
    refine rq_bM (so_p (t := pI t 0 24 a) (by rw [q_nc rfl]; exact b1) (soh_0 P2)) (fun r7 t8 l7 => ?_)
    obtain ⟨et2, l7⟩ := l7
    have q : r1 = r7 := bt_iff k1 (fun x hx => by
      rw [l7 x hx, q_eq]
      have e : (pI t 0 24 a).1 1 = t.1 1 := by
        funext j
        rw [q_nc rfl]
      rw [e])
    have q2 : r3 = r5 := bt_iff k3 (fun x hx => by rw [l5 x hx, e24]; rfl)
    have fin : RQ (bd (f_X11_answer ((r1 &&& (r3 ^^^ (-1))) &&& (((1 : Int32) <<< (a &&& 31)) ^^^ (-1))) s) (fun r7 s8 => some (r7, s8))) (bd (f_X12_gives ((r7 &&& (r5 ^^^ (-1))) &&& (((1 : Int32) <<< (a &&& 31)) ^^^ (-1))) (pI t8 0 24 (-1))) (fun r9 s10 => some (r9, s10))) AnQ := aq_an s _ (by rw [q, q2])
    exact fin
  · rw [if0, if0]
    exact aq_rf s t 1
