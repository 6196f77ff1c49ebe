/-! a street's numbers: what they are between; the names that stay -/
def Zr0 (M : Nat → Int32) : Prop := (∀ h : Nat, h < 8 → (M 0).toInt ≤ (h : Int) → M (16 + 3 * h) = 0 ∧ M (17 + 3 * h) = 0) ∧ (∀ h : Nat, h < 8 → M (18 + 3 * h) = 0) ∧ (∀ g : Nat, g < 4 → (M 3).toInt ≤ (g : Int) → M (94 + 3 * g) = 0)
def Ce (M : Nat → Int32) : Prop := ∀ c : Nat, (c : Int) < (M 2).toInt → (0 ≤ (M (80 + 3 * c)).toInt ∧ (M (80 + 3 * c)).toInt < (M 0).toInt) ∧ (0 ≤ (M (81 + 3 * c)).toInt ∧ (M (81 + 3 * c)).toInt < (M 0).toInt)
def Cn4 (M : Nat → Int32) : Prop := (0 ≤ (M 0).toInt ∧ (M 0).toInt ≤ 8) ∧ (0 ≤ (M 1).toInt ∧ (M 1).toInt ≤ 8) ∧ (0 ≤ (M 2).toInt ∧ (M 2).toInt ≤ 4) ∧ (0 ≤ (M 3).toInt ∧ (M 3).toInt ≤ 4)
def BdM (M : Nat → Int32) : Prop := (PlB M ∧ Gz M) ∧ Zr0 M ∧ Ce M ∧ Cn4 M
theorem hb_fin {M M' : Nat → Int32} (h : BdM M) {n : Nat} (hn : (M 0).toInt = (n : Int)) (h8 : n < 8) (c0 : (M' 0).toInt = (n : Int) + 1) (sm : ∀ p, p < 480 → ¬ p = 0 → ¬ p = 9 → ¬ p = 16 + 3 * n → ¬ p = 17 + 3 * n → M' p = M p) (g : M' 9 = M 9 ∨ (M' 9 = M 9 ||| bitI n ∧ M' (16 + 3 * n) = M (16 + 3 * n) ∧ M' (17 + 3 * n) = M (17 + 3 * n))) : BdM M' := by
  obtain ⟨⟨⟨p1, p2, p3, p4, p5, p6⟩, gz⟩, ⟨z1, z2, z3⟩, ce, ⟨c1, c2, c3, c4⟩⟩ := h
  have s1 := sm 1 (by decide) (by decide) (by decide) (by omega) (by omega)
  have s2 := sm 2 (by decide) (by decide) (by decide) (by omega) (by omega)
  have s3 := sm 3 (by decide) (by decide) (by decide) (by omega) (by omega)
  have nb : ∀ x, ¬ x = n → bt (M' 9) x = bt (M 9) x := fun x hx => by
    rcases g with g | g
    · rw [g]
    · rw [g.1, bt_or, bt_bit (by omega)]
      rw [decide_eq_false hx, Bool.or_false]
  refine ⟨⟨⟨fun q hq => ?_, fun c hc => ?_, fun x hx => ?_, ?_, fun x hx => ?_, ?_⟩, fun x hx hb => ?_⟩, ⟨fun x hx hx0 => ?_, fun x hx => ?_, fun x hx hx3 => ?_⟩, fun c hc => ?_, ⟨by omega, by omega⟩, ?_, ?_, ?_⟩
  · rw [s1] at hq
    rw [sm _ (by omega) (by omega) (by omega) (by omega) (by omega)]
    exact p1 q hq
  · rw [s2] at hc
    have w := p2 c hc
    have e := ce c hc
    rw [sm (82 + 3 * c) (by omega) (by omega) (by omega) (by omega) (by omega), sm (80 + 3 * c) (by omega) (by omega) (by omega) (by omega) (by omega), sm (81 + 3 * c) (by omega) (by omega) (by omega) (by omega) (by omega), nb _ (by omega), nb _ (by omega)]
    exact w
  · rw [s3] at hx
    rw [sm _ (by omega) (by omega) (by omega) (by omega) (by omega), sm _ (by omega) (by omega) (by omega) (by omega) (by omega)]
    exact p3 x hx
  · rw [sm 13 (by decide) (by decide) (by decide) (by omega) (by omega)]
    exact p4
  · rw [nb x (by omega)]
    exact p5 x (by omega)
  · rw [sm 14 (by decide) (by decide) (by decide) (by omega) (by omega)]
    exact p6
  · by_cases y : x = n
    · subst y
      rcases g with g | g
      · rw [g, p5 x (by omega)] at hb
        exact absurd hb (by decide)
      · rw [g.2.1, g.2.2, sm _ (by omega) (by omega) (by omega) (by omega) (by omega)]
        exact ⟨(z1 x hx (by omega)).1, (z1 x hx (by omega)).2, z2 x hx⟩
    · rw [nb x y] at hb
      rw [sm _ (by omega) (by omega) (by omega) (by omega) (by omega), sm _ (by omega) (by omega) (by omega) (by omega) (by omega), sm _ (by omega) (by omega) (by omega) (by omega) (by omega)]
      exact gz x hx hb
  · rw [sm _ (by omega) (by omega) (by omega) (by omega) (by omega), sm _ (by omega) (by omega) (by omega) (by omega) (by omega)]
    exact z1 x hx (by omega)
  · rw [sm _ (by omega) (by omega) (by omega) (by omega) (by omega)]
    exact z2 x hx
  · rw [s3] at hx3
    rw [sm _ (by omega) (by omega) (by omega) (by omega) (by omega)]
    exact z3 x hx hx3
  · rw [s2] at hc
    have e := ce c hc
    rw [sm (80 + 3 * c) (by omega) (by omega) (by omega) (by omega) (by omega), sm (81 + 3 * c) (by omega) (by omega) (by omega) (by omega) (by omega)]
    exact ⟨by omega, by omega⟩
  · rw [s1]; exact c2
  · rw [s2]; exact c3
  · rw [s3]; exact c4
/-- what else may change: a quarrel, a cat, a grocer, the rain, the gone -/
theorem bd_fin {M M' : Nat → Int32} (h : BdM M) (e0 : M' 0 = M 0) (e9 : M' 9 = M 9) (eh : ∀ p, 16 ≤ p → p < 40 → M' p = M p) (q1 : ∀ q : Nat, (q : Int) < (M' 1).toInt → 1 ≤ (M' (42 + 5 * q)).toInt ∧ (M' (42 + 5 * q)).toInt ≤ 99) (k1 : 0 ≤ (M' 1).toInt ∧ (M' 1).toInt ≤ 8) (q2 : ∀ c : Nat, (c : Int) < (M' 2).toInt → ((1 ≤ (M' (82 + 3 * c)).toInt ∧ (M' (82 + 3 * c)).toInt ≤ 99) ∧ bt (M 9) (M' (80 + 3 * c)).toInt.toNat = false ∧ bt (M 9) (M' (81 + 3 * c)).toInt.toNat = false) ∧ (0 ≤ (M' (80 + 3 * c)).toInt ∧ (M' (80 + 3 * c)).toInt < (M 0).toInt) ∧ (0 ≤ (M' (81 + 3 * c)).toInt ∧ (M' (81 + 3 * c)).toInt < (M 0).toInt)) (k2 : 0 ≤ (M' 2).toInt ∧ (M' 2).toInt ≤ 4) (q3 : ∀ g : Nat, (g : Int) < (M' 3).toInt → (1 ≤ (M' (93 + 3 * g)).toInt ∧ (M' (93 + 3 * g)).toInt ≤ 99) ∧ (0 ≤ (M' (94 + 3 * g)).toInt ∧ (M' (94 + 3 * g)).toInt ≤ 16)) (k3 : 0 ≤ (M' 3).toInt ∧ (M' 3).toInt ≤ 4) (z3 : ∀ g : Nat, g < 4 → (M' 3).toInt ≤ (g : Int) → M' (94 + 3 * g) = 0) (w : 0 ≤ (M' 13).toInt ∧ (M' 13).toInt ≤ 99) (c14 : M' 14 = 0 ∨ M' 14 = 1) : BdM M' := by
  obtain ⟨⟨⟨p1, p2, p3, p4, p5, p6⟩, gz⟩, ⟨z1, z2, _⟩, ce, ⟨c1, c2, c3, c4⟩⟩ := h
  refine ⟨⟨⟨q1, fun c hc => by rw [e9]; exact (q2 c hc).1, q3, w, fun x hx => by rw [e0] at hx; rw [e9]; exact p5 x hx, c14⟩, fun x hx hb => ?_⟩, ⟨fun x hx hx0 => ?_, fun x hx => ?_, z3⟩, fun c hc => by rw [e0]; exact (q2 c hc).2, by rw [e0]; exact c1, k1, k2, k3⟩
  · rw [e9] at hb
    rw [eh _ (by omega) (by omega), eh _ (by omega) (by omega), eh _ (by omega) (by omega)]
    exact gz x hx hb
  · rw [e0] at hx0
    rw [eh _ (by omega) (by omega), eh _ (by omega) (by omega)]
    exact z1 x hx hx0
  · rw [eh _ (by omega) (by omega)]
    exact z2 x hx
/-! the reference's reader, step by step -/
theorem iw_d (s : Sg) : PQ (f_X12_inWords_1001 s) (fun r s' => s' = s ∧ f_X12_inWords_1001 s = some (r, s)) := fun r s' e => by
  have g := iw_k s r s' e
  subst g
  exact ⟨rfl, e⟩
theorem it_0 {s : Sg} {r a : Int32} (h : f_X12_inWords_1001 s = some (r, s)) (n : ¬ r = a) : f_X12_isThere a s = some (0, s) := by
  unfold f_X12_isThere
  rw [h]
  show (if r = a then _ else _) = _
  rw [if_neg n]
theorem it_k (a : Int32) (s : Sg) : PQ (f_X12_isThere a s) (fun _ s9 => s9.1 1 = s.1 1) := by
  unfold f_X12_isThere
  refine pq_b (iw_k s) (fun r s2 g => ?_)
  subst g
  exact pq_if (fun _ => pq_b (ah_k s2) (fun _ s4 k => pq_s k.1)) (fun _ => pq_s rfl)
theorem nw_k (a1 a2 a3 : Int32) (s : Sg) : PQ (f_X12_newOne a1 a2 a3 s) (OkF (fun s9 => s9.1 1 = s.1 1 ∧ ¬ s.1 1 (1920 + a1).toNatClampNeg = a2)) := by
  unfold f_X12_newOne
  refine pq_c (fun _ => pq_if (fun _ => fl_x 6 s (by decide)) (fun c => pq_b (ah_k s) (fun _ s5 k => pq_b (in_k s5) (fun r6 s7 g => ?_))))
  subst g
  have fh : ∀ (a b : Int32) (u : Sg), PQ (f_X12_findHere a b u) (fun _ u' => u' = u) := fun a b u => by
    have lp : ∀ (m : Nat) (v1 v2 v3 : Int32), PQ (f_X12_findHere_b2 m v1 v2 v3 u) (fun _ u' => u' = u) := fun m => by
      induction m with
      | zero => intro v1 v2 v3 r s' e; cases e
      | succ m ih =>
        intro v1 v2 v3
        unfold f_X12_findHere_b2
        refine pq_if (fun _ => pq_s rfl) (fun _ => pq_c (fun _ => pq_b (nh_k u) (fun r2 s3 g => ?_)))
        subst g
        exact pq_if (fun _ => pq_s rfl) (fun _ => ih _ _ _)
    unfold f_X12_findHere
    exact lp BIG a b 0
  refine pq_if (fun _ => fl_x 2 s7 (by decide)) (fun _ => pq_b (fh _ _ s7) (fun r10 s11 g => ?_))
  subst g
  refine pq_if (fun _ => pq_b (fh _ _ s11) (fun r12 s13 g => ?_)) (fun _ => fl_x 3 s11 (by decide))
  subst g
  refine pq_if (fun _ => pq_b (fh _ _ s13) (fun r14 s15 g => ?_)) (fun _ => fl_x 3 s13 (by decide))
  subst g
  refine pq_if (fun _ => pq_b (fh _ _ s15) (fun r16 s17 g => ?_)) (fun _ => fl_x 3 s15 (by decide))
  subst g
  refine pq_if (fun _ => pq_b (nh_k s17) (fun r18 s19 g => pq_c (fun _ => pq_n (fun s21 e => pq_b (ah_k s21) (fun _ s23 l => pq_s (ok_1 ⟨?_, c⟩)))))) (fun _ => fl_x 3 s17 (by decide))
  subst g
  rw [l.1, e]
  exact k.1
theorem nu_b (a1 a2 a3 : Int32) (s : Sg) {p0 : Nat} (h : a1.toNatClampNeg = p0) : PQ (f_X12_number a1 a2 a3 s) (OkF (fun s9 => (∀ p, ¬ p = p0 → s9.1 1 p = s.1 1 p) ∧ a2.toInt ≤ (s9.1 1 p0).toInt ∧ (s9.1 1 p0).toInt ≤ a3.toInt)) := by
  unfold f_X12_number
  refine pq_if (fun _ => pq_if (fun _ => fl_x 4 s (by decide)) (fun c => pq_if (fun d => pq_c (fun _ => pq_n (fun s4 e4 => ?_))) (fun _ => fl_x 4 s (by decide)))) (fun _ => fl_x 2 s (by decide))
  rw [h] at e4
  refine pq_b (ah_k s4) (fun _ s6 g => pq_s (ok_1 ⟨fun p hp => ?_, ?_, ?_⟩))
  · rw [g.1, e4, pI_1, if_neg (fun z => hp z.2)]
  · rw [g.1, e4, q_eq]; exact i_nlt c
  · rw [g.1, e4, q_eq]; exact i_le d
theorem fh_lt (v1 v2 : Int32) (h2 : v2.toInt ≤ 8) (n : Nat) : ∀ (v3 : Int32) (s : Sg), 0 ≤ v3.toInt → v3.toInt ≤ 8 → PQ (f_X12_findHere_b2 n v1 v2 v3 s) (fun r s9 => s9 = s ∧ (r = -1 ∨ (0 ≤ r.toInt ∧ r.toInt < v2.toInt))) := by
  induction n with
  | zero => intro v3 s _ _ r s' e; cases e
  | succ n ih =>
    intro v3 s h3 h4
    unfold f_X12_findHere_b2
    refine pq_if (fun _ => pq_s ⟨rfl, Or.inl rfl⟩) (fun c => pq_c (fun _ => pq_b (nh_k s) (fun r2 s3 g => ?_)))
    have c' := i_nle c
    subst g
    refine pq_if (fun _ => pq_s ⟨rfl, Or.inr (by omega)⟩) (fun _ => ?_)
    have e1 : (1 : Int32).toInt = 1 := rfl
    have a3 : (v3 + 1).toInt = v3.toInt + 1 := i_addx v3 1 (show -2147483648 ≤ v3.toInt + 1 ∧ v3.toInt + 1 ≤ 2147483647 from by omega)
    exact ih (v3 + 1) s3 (by omega) (by omega)
theorem old_b (to : Int32) (s : Sg) (h : (s.1 1 1920).toInt ≤ 8) {p0 : Nat} (hp : to.toNatClampNeg = p0) : PQ (f_X12_oldOne 96 (s.1 1 1920) to s) (OkF (fun s9 => (∀ p, ¬ p = p0 → s9.1 1 p = s.1 1 p) ∧ (0 ≤ (s9.1 1 p0).toInt ∧ (s9.1 1 p0).toInt < (s.1 1 1920).toInt) ∧ f_X12_houseHere s = some (s9.1 1 p0, s) ∧ ¬ s9.1 1 p0 = -1)) := by
  have hk : ∀ {α : Type} (o : Option (α × Sg)), PQ o (fun r s' => o = some (r, s')) := fun o r s' e => e
  unfold f_X12_oldOne
  refine pq_b (pq_and (in_k s) (hk _)) (fun r1 s2 g => ?_)
  obtain ⟨g, e1⟩ := g
  subst g
  refine pq_if (fun _ => fl_x 2 s2 (by decide)) (fun c1 => pq_b (pq_and (fh_lt 96 (s2.1 1 1920) h BIG 0 s2 (by decide) (by decide)) (hk _)) (fun r5 s6 g => pq_c (fun _ => ?_)))
  obtain ⟨⟨g, gv⟩, e5⟩ := g
  subst g
  rw [hp, q_eq]
  refine pq_if (fun _ => fl_x 3 _ (by decide)) (fun c => pq_b (ah_k _) (fun _ s11 k => pq_s (ok_1 ⟨fun p h' => ?_, ?_, ?_, ?_⟩)))
  · rw [k.1, pI_1, if_neg (fun z => h' z.2)]
  · rw [k.1, q_eq]
    exact gv.elim (fun w => absurd w c) id
  · rw [k.1, q_eq]
    unfold f_X12_houseHere
    rw [e1]
    show (if r1 = 0 then _ else bd (f_X12_findHere 96 (s6.1 1 1920) s6) _) = _
    rw [if_neg c1]
    have e5 : f_X12_findHere 96 (s6.1 1 1920) s6 = some (r5, s6) := e5
    rw [e5]
    rfl
  · rw [k.1, q_eq]
    exact c
/-- both ends of a quarrel or a cat: which places change; a cat's ends stand -/
def TwE (v1 v3 : Int32) (p0 : Nat) (s s9 : Sg) : Prop := (∀ p, ¬ p = p0 → ¬ p = p0 + 1 → s9.1 1 p = s.1 1 p) ∧ ((0 ≤ (s9.1 1 p0).toInt ∧ (s9.1 1 p0).toInt < (s.1 1 1920).toInt) ∧ (0 ≤ (s9.1 1 (p0 + 1)).toInt ∧ (s9.1 1 (p0 + 1)).toInt < (s.1 1 1920).toInt)) ∧ (¬ v3 = 0 → bt (s.1 1 1929) (s9.1 1 p0).toInt.toNat = false ∧ bt (s.1 1 1929) (s9.1 1 (p0 + 1)).toInt.toNat = false)
theorem two_65 {Q : Sg → Prop} (k : Int32 → Int32 → Int32 → Int32 → Sg → Option (Int32 × Sg)) (v1 v2 v3 v4 : Int32) (s : Sg) (h8 : (s.1 1 1920).toInt ≤ 8) {p : Nat} (hp : (v1 + v4).toNatClampNeg = p) (hk : ∀ s9, (∀ x, ¬ x = p → s9.1 1 x = s.1 1 x) → (0 ≤ (s9.1 1 p).toInt ∧ (s9.1 1 p).toInt < (s.1 1 1920).toInt) → f_X12_houseHere s = some (s9.1 1 p, s) → ¬ s9.1 1 p = -1 → PQ (k v1 v2 v3 (v4 + 1) s9) (OkF Q)) : PQ (f_X12_twoHouses_b65 k v1 v2 v3 v4 s) (OkF Q) := by
  unfold f_X12_twoHouses_b65
  refine pq_b (old_b _ s h8 hp) (fun r3 s4 w => pq_if (fun c => pq_s ⟨fun _ => w.1 c, fun x => absurd rfl x⟩) (fun c => ?_))
  obtain ⟨w1, w2, w3, w4⟩ := w.2 c
  refine pq_if (fun _ => pq_b (ww_k v2 s4) (fun r5 s6 y => pq_if (fun d => pq_s ⟨fun _ => y.1 d, fun x => absurd rfl x⟩) (fun d => ?_))) (fun _ => hk s4 w1 w2 w3 w4)
  have y := (y.2 d).1
  exact hk s6 (fun x hx => by rw [y]; exact w1 x hx) (by rw [y]; exact w2) (by rw [y]; exact w3) (by rw [y]; exact w4)
theorem two_h {Q : Sg → Prop} (k : Int32 → Int32 → Int32 → Int32 → Sg → Option (Int32 × Sg)) (v1 v2 v3 v4 : Int32) (s : Sg) (h8 : (s.1 1 1920).toInt ≤ 8) {p : Nat} (hp : (v1 + v4).toNatClampNeg = p) (hk : ∀ s9, (∀ x, ¬ x = p → s9.1 1 x = s.1 1 x) → (0 ≤ (s9.1 1 p).toInt ∧ (s9.1 1 p).toInt < (s.1 1 1920).toInt) → (¬ v3 = 0 → bt (s.1 1 1929) (s9.1 1 p).toInt.toNat = false) → PQ (k v1 v2 v3 (v4 + 1) s9) (OkF Q)) : PQ (bd (f_X12_houseHere s) (fun r1 s2 => if r1 = (-1) then f_X12_twoHouses_b65 k v1 v2 v3 v4 s2 else if v3 = 0 then f_X12_twoHouses_b42 k v1 v2 v3 v4 r1 s2 else if (((s2.1 1 1929) >>> (r1 &&& 31)) &&& 1) = 1 then bd (f_X12_fails 5 s2) (fun r10 s11 => ck (r10 = 0 ∨ r10 = 1) (some (r10, s11))) else f_X12_twoHouses_b42 k v1 v2 v3 v4 r1 s2)) (OkF Q) := by
  have hh : PQ (f_X12_houseHere s) (fun r s' => s' = s ∧ f_X12_houseHere s = some (r, s)) := fun r s' e => by
    have q : s' = s := by
      have w : PQ (f_X12_houseHere s) (fun _ s' => s' = s) := by
        unfold f_X12_houseHere
        refine pq_b (in_k s) (fun r1 s2 g => ?_)
        subst g
        exact pq_if (fun _ => pq_s rfl) (fun _ => pq_b (fh_k 96 _ s2 h8) (fun r3 s4 g => pq_s g.1))
      exact w r s' e
    subst q
    exact ⟨rfl, e⟩
  refine pq_b hh (fun r1 s2 g => ?_)
  obtain ⟨g, e1⟩ := g
  subst g
  have n65 : (∀ x : Int32, f_X12_houseHere s2 = some (x, s2) → ¬ x = -1 → ¬ v3 = 0 → bt (s2.1 1 1929) x.toInt.toNat = false) → PQ (f_X12_twoHouses_b65 k v1 v2 v3 v4 s2) (OkF Q) := fun hg => two_65 k v1 v2 v3 v4 s2 h8 hp (fun s9 a b c d => hk s9 a b (fun z => hg _ c d z))
  have n42 : (¬ v3 = 0 → bt (s2.1 1 1929) r1.toInt.toNat = false) → PQ (f_X12_twoHouses_b42 k v1 v2 v3 v4 r1 s2) (OkF Q) := fun hg => by
    have w := n65 (fun x hx _ hz => by
      rw [e1] at hx
      cases hx
      exact hg hz)
    unfold f_X12_twoHouses_b42
    exact pq_if (fun _ => pq_c (fun _ => pq_if (fun _ => fl_x 5 s2 (by decide)) (fun _ => w))) (fun _ => w)
  refine pq_if (fun c => n65 (fun x hx hn _ => ?_)) (fun c => pq_if (fun d => n42 (fun z => absurd d z)) (fun d => pq_if (fun _ => fl_x 5 s2 (by decide)) (fun f => n42 (fun _ => ?_))))
  · rw [e1] at hx
    cases hx
    exact absurd c hn
  · have rv : 0 ≤ r1.toInt ∧ r1.toInt ≤ 7 := by
      have w : PQ (f_X12_houseHere s2) (fun r _ => r = -1 ∨ (0 ≤ r.toInt ∧ r.toInt ≤ 7)) := by
        unfold f_X12_houseHere
        refine pq_b (in_k s2) (fun r1 s3 g => ?_)
        subst g
        exact pq_if (fun _ => pq_s (Or.inl rfl)) (fun _ => pq_b (fh_k 96 _ s3 h8) (fun r3 s4 g => pq_s g.2))
      exact (w r1 s2 e1).elim (fun z => absurd z c) id
    have y := sh1_1 (s2.1 1 1929) r1 (q := r1.toInt.toNat) (by omega) (by omega)
    cases hb : bt (s2.1 1 1929) r1.toInt.toNat with
    | false => rfl
    | true => exact absurd (y.mpr hb) f
theorem two_k (v1 v2 v3 : Int32) (s : Sg) (h8 : (s.1 1 1920).toInt ≤ 8) {p0 : Nat} (hv : v1.toInt = (p0 : Int)) (hp : 1930 ≤ p0 ∧ p0 < 2500) : PQ (f_X12_twoHouses v1 v2 v3 s) (OkF (fun s9 => TwE v1 v3 p0 s s9)) := by
  have e0 : (0 : Int32).toInt = 0 := rfl
  have e1 : ((0 : Int32) + 1).toInt = 1 := rfl
  have b0 : (v1 + 0).toInt = v1.toInt + (0 : Int32).toInt := i_addx _ _ (by omega)
  have b1 : (v1 + (0 + 1)).toInt = v1.toInt + ((0 : Int32) + 1).toInt := i_addx _ _ (by omega)
  have d0 : (v1 + 0).toNatClampNeg = p0 := cl_h (by omega)
  have d1 : (v1 + (0 + 1)).toNatClampNeg = p0 + 1 := cl_h (by omega)
  have key : ∀ m : Nat, PQ (f_X12_twoHouses_b3 m v1 v2 v3 0 s) (OkF (fun s9 => TwE v1 v3 p0 s s9)) := fun m => by
    cases m with
    | zero => intro r s' e; cases e
    | succ m =>
      unfold f_X12_twoHouses_b3
      refine pq_if (fun c => absurd c (by decide)) (fun _ => two_h _ v1 v2 v3 0 s h8 d0 (fun s1 a1 a2 a3 => ?_))
      have n1 : s1.1 1 1920 = s.1 1 1920 := a1 1920 (by omega)
      have n9 : s1.1 1 1929 = s.1 1 1929 := a1 1929 (by omega)
      cases m with
      | zero => intro r s' e; cases e
      | succ m =>
        unfold f_X12_twoHouses_b3
        refine pq_if (fun c => absurd c (by decide)) (fun _ => two_h _ v1 v2 v3 (0 + 1) s1 (by rw [n1]; exact h8) d1 (fun s2 c1 c2 c3 => ?_))
        cases m with
        | zero => intro r s' e; cases e
        | succ m =>
          unfold f_X12_twoHouses_b3
          refine pq_if (fun _ => pq_s (ok_1 ⟨fun p y1 y2 => by rw [c1 p y2, a1 p y1], ⟨by rw [c1 p0 (by omega)]; exact a2, by rw [← n1]; exact c2⟩, fun z => ⟨by rw [c1 p0 (by omega)]; exact a3 z, by rw [← n9]; exact c3 z⟩⟩)) (fun c => absurd (by decide) c)
  unfold f_X12_twoHouses
  exact key BIG
/-! a street's parts keep the bounds -/
theorem pq_so {α β : Type} {r : α} {s : Sg} {k : α → Sg → Option (β × Sg)} {Q : β → Sg → Prop} (h : PQ (k r s) Q) : PQ (bd (some (r, s)) k) Q := h
def BdN (s : Sg) : Prop := BdM (mN s)
theorem bd_k {s s' : Sg} (h : BdN s) (e : s'.1 1 = s.1 1) : BdN s' := by
  unfold BdN mN at h ⊢
  rw [e]; exact h
theorem house_b106 {s : Sg} (h : BdN s) {n : Nat} (hn : (s.1 1 1920).toInt = (n : Int)) (h8 : n < 8) (v1 v3 : Int32) (hv : v1.toInt = (n : Int)) (u : Sg) (hu : ∀ p, ¬ p = 1936 + 3 * n → ¬ p = 1937 + 3 * n → u.1 1 p = s.1 1 p) (h3 : v3 = 0 → u.1 1 = s.1 1) : PQ (f_X12_aHouse_b106 v1 v3 u) (OkF BdN) := by
  have e1 : (1 : Int32).toInt = 1 := rfl
  have fin : ∀ w : Sg, (∀ p, ¬ p = 1929 → ¬ p = 1936 + 3 * n → ¬ p = 1937 + 3 * n → w.1 1 p = s.1 1 p) → (w.1 1 1929 = s.1 1 1929 ∨ (w.1 1 1929 = s.1 1 1929 ||| bitI n ∧ w.1 1 (1936 + 3 * n) = s.1 1 (1936 + 3 * n) ∧ w.1 1 (1937 + 3 * n) = s.1 1 (1937 + 3 * n))) → PQ (f_X12_aHouse_b144 w) (OkF BdN) := fun w hw g => by
    unfold f_X12_aHouse_b144
    have hw0 : w.1 1 1920 = s.1 1 1920 := hw 1920 (by decide) (by omega) (by omega)
    have ec : ∀ p, ¬ p = 0 → mN (pI w 1 1920 (w.1 1 1920 + 1)) p = w.1 1 (1920 + p) := fun p hp => by
      unfold mN
      rw [pI_1, if_neg (fun z => hp (by have := z.2; omega))]
    refine pq_s (ok_1 (hb_fin h hn h8 ?_ (fun p _ p0 p9 p16 p17 => ?_) ?_))
    · show ((pI w 1 1920 (w.1 1 1920 + 1)).1 1 1920).toInt = _
      rw [q_eq, hw0, i_addx _ 1 (by omega), hn, e1]
    · rw [ec p p0, hw _ (by omega) (by omega) (by omega)]
      rfl
    · rw [ec 9 (by decide), ec (16 + 3 * n) (by omega), ec (17 + 3 * n) (by omega)]
      have a1 : 1920 + (16 + 3 * n) = 1936 + 3 * n := by omega
      have a2 : 1920 + (17 + 3 * n) = 1937 + 3 * n := by omega
      unfold mN
      rw [a1, a2]
      exact g
  unfold f_X12_aHouse_b106
  refine pq_b (iw_k u) (fun r10 s11 g => ?_)
  subst g
  refine pq_if (fun _ => pq_if (fun c => pq_n (fun s12 e12 => pq_b (ah_k s12) (fun _ s14 k => fin s14 (fun p p9 p16 p17 => ?_) (Or.inr ⟨?_, ?_, ?_⟩)))) (fun _ => fl_x 5 s11 (by decide))) (fun _ => fin s11 (fun p _ p16 p17 => hu p p16 p17) (Or.inl (hu 1929 (by omega) (by omega))))
  · rw [k.1, e12, pI_1, if_neg (fun z => p9 z.2), h3 c]
  · rw [k.1, e12, q_eq, h3 c, bitI_v hv (by omega)]
  · rw [k.1, e12, pI_1, if_neg (fun z => by have := z.2; omega), h3 c]
  · rw [k.1, e12, pI_1, if_neg (fun z => by have := z.2; omega), h3 c]
theorem house_b {s : Sg} (h : BdN s) : PQ (f_X12_aHouse s) (OkF BdN) := by
  have cn := h.2.2.2.1
  have m0 : mN s 0 = s.1 1 1920 := rfl
  rw [m0] at cn
  unfold f_X12_aHouse
  refine pq_n (fun x1 ex => ok_b (nw_k 0 8 0 s) (fun s3 w => ?_))
  obtain ⟨w1, w2⟩ := w
  have w2 : ¬ s.1 1 1920 = 8 := w2
  have w2 := i_ne w2
  have e8 : (8 : Int32).toInt = 8 := rfl
  have e3 : (3 : Int32).toInt = 3 := rfl
  have e1 : (1 : Int32).toInt = 1 := rfl
  have eb : (1936 : Int32).toInt = 1936 := rfl
  have hn : (s.1 1 1920).toInt = ((s.1 1 1920).toInt.toNat : Int) := by omega
  have h8 : (s.1 1 1920).toInt.toNat < 8 := by omega
  generalize hnn : (s.1 1 1920).toInt.toNat = n at hn h8
  have m1 : (3 * s.1 1 1920).toInt = 3 * (s.1 1 1920).toInt := i_mulx 3 _ (show -2147483648 ≤ 3 * (s.1 1 1920).toInt ∧ 3 * (s.1 1 1920).toInt ≤ 2147483647 from by omega)
  have x0 : x1.toInt = (1936 : Int32).toInt + (3 * s.1 1 1920).toInt := by rw [ex]; exact i_addx _ _ (by omega)
  have x2 : (x1 + 1).toInt = x1.toInt + (1 : Int32).toInt := i_addx _ _ (by omega)
  have d0 : x1.toNatClampNeg = 1936 + 3 * n := cl_h (by omega)
  have d1 : (x1 + 1).toNatClampNeg = 1937 + 3 * n := cl_h (by omega)
  have b81 : ∀ (v3 : Int32) (u : Sg), ¬ v3 = 0 → (∀ p, ¬ p = 1936 + 3 * n → ¬ p = 1937 + 3 * n → u.1 1 p = s.1 1 p) → PQ (f_X12_aHouse_b81 (s.1 1 1920) x1 v3 u) (OkF BdN) := fun v3 u hv hu => by
    unfold f_X12_aHouse_b81
    refine pq_b (it_k 7 u) (fun r8 s9 k => pq_if (fun _ => house_b106 h hn h8 _ v3 hn s9 (fun p a b => by rw [k]; exact hu p a b) (fun z => absurd z hv)) (fun _ => ok_b (nu_b (x1 + 1) 0 999 s9 d1) (fun s18 g => house_b106 h hn h8 _ v3 hn s18 (fun p a b => by rw [g.1 p b, k]; exact hu p a b) (fun z => absurd z hv))))
  have b57 : ∀ (u : Sg), u.1 1 = s.1 1 → PQ (f_X12_aHouse_b57 (s.1 1 1920) x1 1 u) (OkF BdN) := fun u hu => by
    unfold f_X12_aHouse_b57
    refine pq_b (it_k 6 u) (fun r6 s7 k => pq_if (fun _ => b81 1 s7 (by decide) (fun p _ _ => by rw [k, hu])) (fun _ => ok_b (nu_b x1 0 999 s7 d0) (fun s20 g => b81 1 s20 (by decide) (fun p a _ => by rw [g.1 p a, k, hu]))))
  refine pq_b (iw_d s3) (fun r4 s5 g => ?_)
  obtain ⟨g, e4⟩ := g
  subst g
  refine pq_if (fun _ => ?_) (fun c4 => pq_b (iw_d s5) (fun r21 s22 g => ?_))
  · unfold f_X12_aHouse_b52
    exact b57 s5 w1
  · obtain ⟨g, e21⟩ := g
    subst g
    refine pq_if (fun _ => ?_) (fun c21 => ?_)
    · unfold f_X12_aHouse_b52
      exact b57 s22 w1
    · unfold f_X12_aHouse_b57
      rw [it_0 e4 c4]
      refine pq_so (pq_if (fun _ => ?_) (fun z => absurd rfl z))
      unfold f_X12_aHouse_b81
      rw [it_0 e21 c21]
      refine pq_so (pq_if (fun _ => ?_) (fun z => absurd rfl z))
      exact house_b106 h hn h8 _ 0 hn s22 (fun p _ _ => by rw [w1]) (fun _ => w1)
theorem quar_b {s : Sg} (h : BdN s) : PQ (f_X12_aQuarrel s) (OkF BdN) := by
  have cn := h.2.2.2
  have m0 : mN s 0 = s.1 1 1920 := rfl
  have m1' : mN s 1 = s.1 1 1921 := rfl
  have c0 := cn.1
  have c1 := cn.2.1
  rw [m0] at c0
  rw [m1'] at c1
  unfold f_X12_aQuarrel
  refine pq_n (fun x1 ex => ok_b (nw_k 1 8 8 s) (fun s3 w => ?_))
  obtain ⟨w1, w2⟩ := w
  have w2 : ¬ s.1 1 1921 = 8 := w2
  have w2 := i_ne w2
  have e8 : (8 : Int32).toInt = 8 := rfl
  have e5 : (5 : Int32).toInt = 5 := rfl
  have e2 : (2 : Int32).toInt = 2 := rfl
  have e1 : (1 : Int32).toInt = 1 := rfl
  have e99 : (99 : Int32).toInt = 99 := rfl
  have eb : (1960 : Int32).toInt = 1960 := rfl
  have hn : (s.1 1 1921).toInt = ((s.1 1 1921).toInt.toNat : Int) := by omega
  have h8 : (s.1 1 1921).toInt.toNat < 8 := by omega
  generalize hnn : (s.1 1 1921).toInt.toNat = q at hn h8
  have m1 : (5 * s.1 1 1921).toInt = 5 * (s.1 1 1921).toInt := i_mulx 5 _ (show -2147483648 ≤ 5 * (s.1 1 1921).toInt ∧ 5 * (s.1 1 1921).toInt ≤ 2147483647 from by omega)
  have x0 : x1.toInt = (1960 : Int32).toInt + (5 * s.1 1 1921).toInt := by rw [ex]; exact i_addx _ _ (by omega)
  have x2 : (x1 + 2).toInt = x1.toInt + (2 : Int32).toInt := i_addx _ _ (by omega)
  have d2 : (x1 + 2).toNatClampNeg = 1962 + 5 * q := cl_h (by omega)
  refine ok_b (ww_k 8 s3) (fun s5 k => ok_b (two_k x1 9 0 s5 (by rw [k.1, w1]; exact c0.2) (p0 := 1960 + 5 * q) (by omega) (by omega)) (fun s7 e => ok_b (ww_k 10 s7) (fun s9 k2 => ok_b (nu_b (x1 + 2) 1 99 s9 d2) (fun s11 g => pq_n (fun s12 e12 => pq_s (ok_1 ?_))))))
  have sm : ∀ p, ¬ p = 1 → ¬ p = 40 + 5 * q → ¬ p = 41 + 5 * q → ¬ p = 42 + 5 * q → mN s12 p = mN s p := fun p p1 p2 p3 p4 => by
    unfold mN
    rw [e12, pI_1, if_neg (fun z => p1 (by have := z.2; omega)), g.1 _ (by omega), k2.1, e.1 _ (by omega) (by omega), k.1, w1]
  have n21 : s11.1 1 1921 = s.1 1 1921 := by rw [g.1 _ (by omega), k2.1, e.1 _ (by omega) (by omega), k.1, w1]
  have c12 : (mN s12 1).toInt = (q : Int) + 1 := by
    show (s12.1 1 1921).toInt = _
    rw [e12, q_eq, n21, i_addx _ 1 (by omega), hn, e1]
  have v42 : mN s12 (42 + 5 * q) = s11.1 1 (1962 + 5 * q) := by
    unfold mN
    rw [e12, pI_1, if_neg (fun z => by have := z.2; omega)]
    exact congrArg (s11.1 1) (by omega)
  obtain ⟨⟨⟨p1, p2, p3, p4, p5, p6⟩, gz⟩, ⟨z1, z2, z3⟩, ce, ⟨b1, b2, b3, b4⟩⟩ := h
  have hq1 : (mN s 1).toInt = (q : Int) := hn
  refine bd_fin ⟨⟨⟨p1, p2, p3, p4, p5, p6⟩, gz⟩, ⟨z1, z2, z3⟩, ce, ⟨b1, b2, b3, b4⟩⟩ (sm 0 (by omega) (by omega) (by omega) (by omega)) (sm 9 (by omega) (by omega) (by omega) (by omega)) (fun p _ _ => sm p (by omega) (by omega) (by omega) (by omega)) (fun x hx => ?_) (by omega) (fun c hc => ?_) ?_ (fun x hx => ?_) ?_ (fun x hx hx3 => ?_) ?_ ?_
  · by_cases z : x = q
    · subst z
      rw [v42]
      have := g.2
      omega
    · rw [sm _ (by omega) (by omega) (by omega) (by omega)]
      exact p1 x (by omega)
  · rw [sm 2 (by omega) (by omega) (by omega) (by omega)] at hc
    rw [sm _ (by omega) (by omega) (by omega) (by omega), sm _ (by omega) (by omega) (by omega) (by omega), sm _ (by omega) (by omega) (by omega) (by omega)]
    exact ⟨p2 c hc, ce c hc⟩
  · rw [sm 2 (by omega) (by omega) (by omega) (by omega)]; exact b3
  · rw [sm 3 (by omega) (by omega) (by omega) (by omega)] at hx
    rw [sm _ (by omega) (by omega) (by omega) (by omega), sm _ (by omega) (by omega) (by omega) (by omega)]
    exact p3 x hx
  · rw [sm 3 (by omega) (by omega) (by omega) (by omega)]; exact b4
  · rw [sm 3 (by omega) (by omega) (by omega) (by omega)] at hx3
    rw [sm _ (by omega) (by omega) (by omega) (by omega)]
    exact z3 x hx hx3
  · rw [sm 13 (by omega) (by omega) (by omega) (by omega)]; exact p4
  · rw [sm 14 (by omega) (by omega) (by omega) (by omega)]; exact p6
theorem cat_b {s : Sg} (h : BdN s) : PQ (f_X12_aCat s) (OkF BdN) := by
  have cn := h.2.2.2
  have m0 : mN s 0 = s.1 1 1920 := rfl
  have m1' : mN s 2 = s.1 1 1922 := rfl
  have c0 := cn.1
  have c1 := cn.2.2.1
  rw [m0] at c0
  rw [m1'] at c1
  unfold f_X12_aCat
  refine pq_n (fun x1 ex => ok_b (nw_k 2 4 16 s) (fun s3 w => ?_))
  obtain ⟨w1, w2⟩ := w
  have w2 : ¬ s.1 1 1922 = 4 := w2
  have w2 := i_ne w2
  have e4 : (4 : Int32).toInt = 4 := rfl
  have e3 : (3 : Int32).toInt = 3 := rfl
  have e2 : (2 : Int32).toInt = 2 := rfl
  have e1 : (1 : Int32).toInt = 1 := rfl
  have e99 : (99 : Int32).toInt = 99 := rfl
  have eb : (2000 : Int32).toInt = 2000 := rfl
  have hn : (s.1 1 1922).toInt = ((s.1 1 1922).toInt.toNat : Int) := by omega
  have h8 : (s.1 1 1922).toInt.toNat < 4 := by omega
  generalize hnn : (s.1 1 1922).toInt.toNat = q at hn h8
  have m1 : (3 * s.1 1 1922).toInt = 3 * (s.1 1 1922).toInt := i_mulx 3 _ (show -2147483648 ≤ 3 * (s.1 1 1922).toInt ∧ 3 * (s.1 1 1922).toInt ≤ 2147483647 from by omega)
  have x0 : x1.toInt = (2000 : Int32).toInt + (3 * s.1 1 1922).toInt := by rw [ex]; exact i_addx _ _ (by omega)
  have x2 : (x1 + 2).toInt = x1.toInt + (2 : Int32).toInt := i_addx _ _ (by omega)
  have d2 : (x1 + 2).toNatClampNeg = 2002 + 3 * q := cl_h (by omega)
  refine ok_b (ww_k 11 s3) (fun s5 k => ok_b (two_k x1 12 1 s5 (by rw [k.1, w1]; exact c0.2) (p0 := 2000 + 3 * q) (by omega) (by omega)) (fun s7 e => ok_b (ww_k 13 s7) (fun s9 k2 => ok_b (nu_b (x1 + 2) 1 99 s9 d2) (fun s11 g => pq_n (fun s12 e12 => pq_s (ok_1 ?_))))))
  have sm : ∀ p, ¬ p = 2 → ¬ p = 80 + 3 * q → ¬ p = 81 + 3 * q → ¬ p = 82 + 3 * q → mN s12 p = mN s p := fun p p1 p2 p3 p4 => by
    unfold mN
    rw [e12, pI_1, if_neg (fun z => p1 (by have := z.2; omega)), g.1 _ (by omega), k2.1, e.1 _ (by omega) (by omega), k.1, w1]
  have n21 : s11.1 1 1922 = s.1 1 1922 := by rw [g.1 _ (by omega), k2.1, e.1 _ (by omega) (by omega), k.1, w1]
  have c12 : (mN s12 2).toInt = (q : Int) + 1 := by
    show (s12.1 1 1922).toInt = _
    rw [e12, q_eq, n21, i_addx _ 1 (by omega), hn, e1]
  have v82 : mN s12 (82 + 3 * q) = s11.1 1 (2002 + 3 * q) := by
    unfold mN
    rw [e12, pI_1, if_neg (fun z => by have := z.2; omega)]
    exact congrArg (s11.1 1) (by omega)
  have v80 : mN s12 (80 + 3 * q) = s7.1 1 (2000 + 3 * q) := by
    unfold mN
    rw [e12, pI_1, if_neg (fun z => by have := z.2; omega), g.1 _ (by omega), k2.1]
    exact congrArg (s7.1 1) (by omega)
  have v81 : mN s12 (81 + 3 * q) = s7.1 1 (2000 + 3 * q + 1) := by
    unfold mN
    rw [e12, pI_1, if_neg (fun z => by have := z.2; omega), g.1 _ (by omega), k2.1]
    exact congrArg (s7.1 1) (by omega)
  obtain ⟨-, t1, t2⟩ := e
  have t2 := t2 (by decide)
  have n20 : s5.1 1 1920 = mN s 0 := by rw [k.1, w1]; rfl
  have n29 : s5.1 1 1929 = mN s 9 := by rw [k.1, w1]; rfl
  rw [n20] at t1
  rw [n29] at t2
  obtain ⟨⟨⟨p1, p2, p3, p4, p5, p6⟩, gz⟩, ⟨z1, z2, z3⟩, ce, ⟨b1, b2, b3, b4⟩⟩ := h
  have hq1 : (mN s 2).toInt = (q : Int) := hn
  refine bd_fin ⟨⟨⟨p1, p2, p3, p4, p5, p6⟩, gz⟩, ⟨z1, z2, z3⟩, ce, ⟨b1, b2, b3, b4⟩⟩ (sm 0 (by omega) (by omega) (by omega) (by omega)) (sm 9 (by omega) (by omega) (by omega) (by omega)) (fun p _ _ => sm p (by omega) (by omega) (by omega) (by omega)) (fun x hx => ?_) ?_ (fun c hc => ?_) (by omega) (fun x hx => ?_) ?_ (fun x hx hx3 => ?_) ?_ ?_
  · rw [sm 1 (by omega) (by omega) (by omega) (by omega)] at hx
    rw [sm _ (by omega) (by omega) (by omega) (by omega)]
    exact p1 x hx
  · rw [sm 1 (by omega) (by omega) (by omega) (by omega)]; exact b2
  · by_cases z : c = q
    · subst z
      rw [v80, v81, v82]
      exact ⟨⟨by have := g.2; omega, t2.1, t2.2⟩, t1.1, t1.2⟩
    · rw [sm _ (by omega) (by omega) (by omega) (by omega), sm _ (by omega) (by omega) (by omega) (by omega), sm _ (by omega) (by omega) (by omega) (by omega)]
      exact ⟨p2 c (by omega), ce c (by omega)⟩
  · rw [sm 3 (by omega) (by omega) (by omega) (by omega)] at hx
    rw [sm _ (by omega) (by omega) (by omega) (by omega), sm _ (by omega) (by omega) (by omega) (by omega)]
    exact p3 x hx
  · rw [sm 3 (by omega) (by omega) (by omega) (by omega)]; exact b4
  · rw [sm 3 (by omega) (by omega) (by omega) (by omega)] at hx3
    rw [sm _ (by omega) (by omega) (by omega) (by omega)]
    exact z3 x hx hx3
  · rw [sm 13 (by omega) (by omega) (by omega) (by omega)]; exact p4
  · rw [sm 14 (by omega) (by omega) (by omega) (by omega)]; exact p6
theorem groc_b {s : Sg} (h : BdN s) : PQ (f_X12_aGrocer s) (OkF BdN) := by
  have cn := h.2.2.2
  have m1' : mN s 3 = s.1 1 1923 := rfl
  have c1 := cn.2.2.2
  rw [m1'] at c1
  unfold f_X12_aGrocer
  refine pq_n (fun x1 ex => ok_b (nw_k 3 4 20 s) (fun s3 w => ?_))
  obtain ⟨w1, w2⟩ := w
  have w2 : ¬ s.1 1 1923 = 4 := w2
  have w2 := i_ne w2
  have e4 : (4 : Int32).toInt = 4 := rfl
  have e3 : (3 : Int32).toInt = 3 := rfl
  have e2 : (2 : Int32).toInt = 2 := rfl
  have e1 : (1 : Int32).toInt = 1 := rfl
  have e0 : (0 : Int32).toInt = 0 := rfl
  have e16 : (16 : Int32).toInt = 16 := rfl
  have e99 : (99 : Int32).toInt = 99 := rfl
  have eb : (2012 : Int32).toInt = 2012 := rfl
  have hn : (s.1 1 1923).toInt = ((s.1 1 1923).toInt.toNat : Int) := by omega
  have h8 : (s.1 1 1923).toInt.toNat < 4 := by omega
  generalize hnn : (s.1 1 1923).toInt.toNat = q at hn h8
  have m1 : (3 * s.1 1 1923).toInt = 3 * (s.1 1 1923).toInt := i_mulx 3 _ (show -2147483648 ≤ 3 * (s.1 1 1923).toInt ∧ 3 * (s.1 1 1923).toInt ≤ 2147483647 from by omega)
  have x0 : x1.toInt = (2012 : Int32).toInt + (3 * s.1 1 1923).toInt := by rw [ex]; exact i_addx _ _ (by omega)
  have x2 : (x1 + 1).toInt = x1.toInt + (1 : Int32).toInt := i_addx _ _ (by omega)
  have x3 : (x1 + 2).toInt = x1.toInt + (2 : Int32).toInt := i_addx _ _ (by omega)
  have d0 : x1.toNatClampNeg = 2012 + 3 * q := cl_h (by omega)
  have d1 : (x1 + 1).toNatClampNeg = 2013 + 3 * q := cl_h (by omega)
  have d2 : (x1 + 2).toNatClampNeg = 2014 + 3 * q := cl_h (by omega)
  refine ok_b (ww_k 14 s3) (fun s5 k => ok_b (nu_b x1 0 999 s5 d0) (fun s7 g1 => ok_b (ww_k 15 s7) (fun s9 k2 => ok_b (nu_b (x1 + 1) 1 99 s9 d1) (fun s11 g2 => pq_b (it_k 16 s11) (fun r12 s13 k3 => ?_)))))
  obtain ⟨⟨⟨p1, p2, p3, p4, p5, p6⟩, gz⟩, ⟨z1, z2, z3⟩, ce, ⟨b1, b2, b3, b4⟩⟩ := h
  have hq1 : (mN s 3).toInt = (q : Int) := hn
  have a13 : ∀ p, ¬ p = 2012 + 3 * q → ¬ p = 2013 + 3 * q → s13.1 1 p = s.1 1 p := fun p a b => by rw [k3, g2.1 p b, k2.1, g1.1 p a, k.1, w1]
  have a93 : s13.1 1 (2013 + 3 * q) = s11.1 1 (2013 + 3 * q) := by rw [k3]
  have fin : ∀ u : Sg, (∀ p, ¬ p = 2014 + 3 * q → u.1 1 p = s13.1 1 p) → (0 ≤ (u.1 1 (2014 + 3 * q)).toInt ∧ (u.1 1 (2014 + 3 * q)).toInt ≤ 16) → PQ (f_X12_aGrocer_b101 u) (OkF BdN) := fun u hu hs => by
    unfold f_X12_aGrocer_b101
    refine pq_s (ok_1 ?_)
    have sm : ∀ p, ¬ p = 3 → ¬ p = 92 + 3 * q → ¬ p = 93 + 3 * q → ¬ p = 94 + 3 * q → mN (pI u 1 1923 (u.1 1 1923 + 1)) p = mN s p := fun p p1 p2 p3 p4 => by
      unfold mN
      rw [pI_1, if_neg (fun z => p1 (by have := z.2; omega)), hu _ (by omega), a13 _ (by omega) (by omega)]
    have n23 : u.1 1 1923 = s.1 1 1923 := by rw [hu _ (by omega), a13 _ (by omega) (by omega)]
    have c12 : (mN (pI u 1 1923 (u.1 1 1923 + 1)) 3).toInt = (q : Int) + 1 := by
      show ((pI u 1 1923 (u.1 1 1923 + 1)).1 1 1923).toInt = _
      rw [q_eq, n23, i_addx _ 1 (by omega), hn, e1]
    have v93 : mN (pI u 1 1923 (u.1 1 1923 + 1)) (93 + 3 * q) = s11.1 1 (2013 + 3 * q) := by
      unfold mN
      rw [pI_1, if_neg (fun z => by have := z.2; omega), hu _ (by omega), ← a93]
      exact congrArg (s13.1 1) (by omega)
    have v94 : mN (pI u 1 1923 (u.1 1 1923 + 1)) (94 + 3 * q) = u.1 1 (2014 + 3 * q) := by
      unfold mN
      rw [pI_1, if_neg (fun z => by have := z.2; omega)]
      exact congrArg (u.1 1) (by omega)
    refine bd_fin ⟨⟨⟨p1, p2, p3, p4, p5, p6⟩, gz⟩, ⟨z1, z2, z3⟩, ce, ⟨b1, b2, b3, b4⟩⟩ (sm 0 (by omega) (by omega) (by omega) (by omega)) (sm 9 (by omega) (by omega) (by omega) (by omega)) (fun p _ _ => sm p (by omega) (by omega) (by omega) (by omega)) (fun x hx => ?_) ?_ (fun c hc => ?_) ?_ (fun x hx => ?_) (by omega) (fun x hx hx3 => ?_) ?_ ?_
    · rw [sm 1 (by omega) (by omega) (by omega) (by omega)] at hx
      rw [sm _ (by omega) (by omega) (by omega) (by omega)]
      exact p1 x hx
    · rw [sm 1 (by omega) (by omega) (by omega) (by omega)]; exact b2
    · rw [sm 2 (by omega) (by omega) (by omega) (by omega)] at hc
      rw [sm _ (by omega) (by omega) (by omega) (by omega), sm _ (by omega) (by omega) (by omega) (by omega), sm _ (by omega) (by omega) (by omega) (by omega)]
      exact ⟨p2 c hc, ce c hc⟩
    · rw [sm 2 (by omega) (by omega) (by omega) (by omega)]; exact b3
    · by_cases z : x = q
      · subst z
        rw [v93, v94]
        exact ⟨by have := g2.2; omega, hs⟩
      · rw [sm _ (by omega) (by omega) (by omega) (by omega), sm _ (by omega) (by omega) (by omega) (by omega)]
        exact p3 x (by omega)
    · rw [sm _ (by omega) (by omega) (by omega) (by omega)]
      exact z3 x hx (by omega)
    · rw [sm 13 (by omega) (by omega) (by omega) (by omega)]; exact p4
    · rw [sm 14 (by omega) (by omega) (by omega) (by omega)]; exact p6
  refine pq_if (fun _ => fin s13 (fun _ _ => rfl) ?_) (fun _ => ok_b (nu_b (x1 + 2) 0 16 s13 d2) (fun s15 g3 => fin s15 g3.1 (by have := g3.2; omega)))
  have z : mN s (94 + 3 * q) = 0 := z3 q h8 (by omega)
  have z : s.1 1 (2014 + 3 * q) = 0 := by
    rw [← z]
    exact congrArg (s.1 1) (by omega)
  rw [a13 _ (by omega) (by omega), z, e0]
  omega
theorem once_b {s : Sg} (h : BdN s) (a1 : Int32) : PQ (f_X12_once a1 s) (OkF BdN) := by
  have e0 : (0 : Int32).toInt = 0 := rfl
  have e99 : (99 : Int32).toInt = 99 := rfl
  unfold f_X12_once
  refine pq_b (ah_k s) (fun _ s2 k => pq_b (iw_k s2) (fun r3 s4 g => ?_))
  subst g
  refine pq_if (fun _ => pq_if (fun _ => fl_x 5 s4 (by decide)) (fun _ => pq_n (fun s7 e7 => pq_b (ah_k s7) (fun _ s9 k9 => ?_)))) (fun _ => fl_x 2 s4 (by decide))
  have m9 : s9.1 1 = s.1 1 := by rw [k9.1, e7, pI_o _ _ _ _ _ (by decide), k.1]
  obtain ⟨⟨⟨p1, p2, p3, p4, p5, p6⟩, gz⟩, ⟨z1, z2, z3⟩, ce, ⟨b1, b2, b3, b4⟩⟩ := h
  have fin : ∀ u : Sg, (∀ p, ¬ p = 13 → ¬ p = 14 → mN u p = mN s p) → (0 ≤ (mN u 13).toInt ∧ (mN u 13).toInt ≤ 99) → (mN u 14 = 0 ∨ mN u 14 = 1) → BdN u := fun u sm w c => by
    refine bd_fin (M := mN s) ⟨⟨⟨p1, p2, p3, p4, p5, p6⟩, gz⟩, ⟨z1, z2, z3⟩, ce, ⟨b1, b2, b3, b4⟩⟩ (sm 0 (by decide) (by decide)) (sm 9 (by decide) (by decide)) (fun p _ _ => sm p (by omega) (by omega)) (fun x hx => ?_) ?_ (fun c hc => ?_) ?_ (fun x hx => ?_) ?_ (fun x hx hx3 => ?_) w c
    · rw [sm 1 (by decide) (by decide)] at hx
      rw [sm _ (by omega) (by omega)]
      exact p1 x hx
    · rw [sm 1 (by decide) (by decide)]; exact b2
    · rw [sm 2 (by decide) (by decide)] at hc
      rw [sm _ (by omega) (by omega), sm _ (by omega) (by omega), sm _ (by omega) (by omega)]
      exact ⟨p2 c hc, ce c hc⟩
    · rw [sm 2 (by decide) (by decide)]; exact b3
    · rw [sm 3 (by decide) (by decide)] at hx
      rw [sm _ (by omega) (by omega), sm _ (by omega) (by omega)]
      exact p3 x hx
    · rw [sm 3 (by decide) (by decide)]; exact b4
    · rw [sm 3 (by decide) (by decide)] at hx3
      rw [sm _ (by omega) (by omega)]
      exact z3 x hx hx3
  refine pq_if (fun _ => ok_c (pq_w (nu_b 1933 0 99 s9 (p0 := 1933) rfl) (fun r u w => ⟨w.1, fun c => ?_⟩))) (fun _ => pq_s (ok_1 (fin _ (fun p a b => ?_) ?_ ?_)))
  · have g := w.2 c
    refine fin u (fun p a b => ?_) ?_ ?_
    · unfold mN
      rw [g.1 _ (by omega), m9]
    · show 0 ≤ (u.1 1 1933).toInt ∧ (u.1 1 1933).toInt ≤ 99
      have := g.2
      omega
    · show u.1 1 1934 = 0 ∨ u.1 1 1934 = 1
      rw [g.1 _ (by decide), m9]
      exact p6
  · unfold mN
    rw [pI_1, if_neg (fun z => b (by have := z.2; omega)), m9]
  · show 0 ≤ ((pI s9 1 1934 1).1 1 1933).toInt ∧ ((pI s9 1 1934 1).1 1 1933).toInt ≤ 99
    rw [q_ne rfl, m9]
    exact p4
  · show (pI s9 1 1934 1).1 1 1934 = 0 ∨ (pI s9 1 1934 1).1 1 1934 = 1
    rw [q_eq]
    exact Or.inr rfl
theorem part_b {s : Sg} (h : BdN s) : PQ (f_X12_streetPart s) (OkF BdN) := by
  unfold f_X12_streetPart
  refine pq_b (iw_k s) (fun r1 s2 g => ?_)
  subst g
  have b : ∀ (o : Option (Int32 × Sg)), PQ o (OkF BdN) → PQ (bd o (fun r s => f_X12_streetPart_b102 r s)) (OkF BdN) := fun o ho => by
    refine pq_b ho (fun r s4 w => ?_)
    unfold f_X12_streetPart_b102
    refine pq_if (fun c => pq_s ⟨fun _ => w.1 c, fun x => absurd rfl x⟩) (fun c => pq_b (ws_k 59 s4) (fun r5 s6 y => pq_if (fun d => pq_s ⟨fun _ => y.1 d, fun x => absurd rfl x⟩) (fun d => pq_s (ok_1 (bd_k (w.2 c) (y.2 d).1)))))
  exact pq_if (fun _ => b _ (house_b h)) (fun _ => pq_if (fun _ => b _ (quar_b h)) (fun _ => pq_if (fun _ => b _ (cat_b h)) (fun _ => pq_if (fun _ => b _ (groc_b h)) (fun _ => pq_if (fun _ => b _ (once_b h 17)) (fun _ => pq_if (fun _ => b _ (once_b h 18)) (fun _ => fl_x 2 s2 (by decide)))))))
/-! the names of the marks and of the street in use stay while a street is read -/
def NLp (n0 s : Sg) : Prop := ∀ p, p < 96 → s.2 2 p = n0.2 2 p
def CntN (s : Sg) : Prop := ∀ q, q < 4 → 0 ≤ (s.1 1 (1920 + q)).toInt ∧ (s.1 1 (1920 + q)).toInt ≤ 8
abbrev MNL : Nat := 2037035976334486086268445688409378161051468393665936250636140449354381299763336706183397371
theorem nl_t {n0 s s' : Sg} {L : Nat} (h : NLp n0 s) (f : Fr cdN L s s') (hL : L &&& MNL = L) : NLp n0 s' := fun p hp => by
  rw [fr_e2 (fr_up f hL) 2 p 2 rfl rfl]
  exact h p hp
theorem nl_i {n0 s : Sg} {c k : Nat} {v : Int32} (h : NLp n0 s) (m : Nat) (_ : cdN c k = m) (_ : MNL.testBit m = true) : NLp n0 (pI s c k v) := h
theorem nl_new {n0 s : Sg} (a1 a2 a3 : Int32) (hC : CntN s) (ha : (0 ≤ a1.toInt ∧ a1.toInt ≤ 3) ∧ 0 ≤ a3.toInt ∧ a3.toInt ≤ 20) (h : NLp n0 s) : PQ (f_X12_newOne a1 a2 a3 s) (fun _ s9 => NLp n0 s9) := by
  have e1920 : (1920 : Int32).toInt = 1920 := rfl
  have e96 : (96 : Int32).toInt = 96 := rfl
  have x0 : (1920 + a1).toInt = (1920 : Int32).toInt + a1.toInt := i_addx _ _ (by omega)
  have d0 : (1920 + a1).toNatClampNeg = 1920 + a1.toInt.toNat := cl_h (by omega)
  have fh : ∀ (a b : Int32) (u : Sg), PQ (f_X12_findHere a b u) (fun _ u' => u' = u) := fun a b u => by
    have lp : ∀ (m : Nat) (v1 v2 v3 : Int32), PQ (f_X12_findHere_b2 m v1 v2 v3 u) (fun _ u' => u' = u) := fun m => by
      induction m with
      | zero => intro v1 v2 v3 r s' e; cases e
      | succ m ih =>
        intro v1 v2 v3
        unfold f_X12_findHere_b2
        refine pq_if (fun _ => pq_s rfl) (fun _ => pq_c (fun _ => pq_b (nh_k u) (fun r2 s3 g => ?_)))
        subst g
        exact pq_if (fun _ => pq_s rfl) (fun _ => ih _ _ _)
    unfold f_X12_findHere
    exact lp BIG a b 0
  have fl : ∀ (a : Int32) (u : Sg), NLp n0 u → PQ (bd (f_X12_fails a u) (fun r s => ck (r = 0 ∨ r = 1) (some (r, s)))) (fun _ s9 => NLp n0 s9) := fun a u hu => pq_b (ft_X12_fails a u) (fun _ s9 g => pq_c (fun _ => pq_s (nl_t hu g rfl)))
  unfold f_X12_newOne
  refine pq_c (fun _ => pq_if (fun _ => fl 6 s h) (fun c => pq_b (pq_and (ft_X12_ahead s) (ah_k s)) (fun _ s5 k => pq_b (in_k s5) (fun r6 s7 g => ?_))))
  subst g
  have h7 : NLp n0 s7 := nl_t h k.1 rfl
  have c7 := k.2.1
  refine pq_if (fun _ => fl 2 s7 h7) (fun _ => pq_b (fh _ _ s7) (fun r10 s11 g => ?_))
  subst g
  refine pq_if (fun _ => pq_b (fh _ _ s11) (fun r12 s13 g => ?_)) (fun _ => fl 3 s11 h7)
  subst g
  refine pq_if (fun _ => pq_b (fh _ _ s13) (fun r14 s15 g => ?_)) (fun _ => fl 3 s13 h7)
  subst g
  refine pq_if (fun _ => pq_b (fh _ _ s15) (fun r16 s17 g => ?_)) (fun _ => fl 3 s15 h7)
  subst g
  refine pq_if (fun _ => pq_b (nh_k s17) (fun r18 s19 g => pq_c (fun _ => pq_n (fun s21 e => ?_)))) (fun _ => fl 3 s17 h7)
  subst g
  have hc := hC a1.toInt.toNat (by omega)
  rw [← c7] at hc
  rw [d0] at e
  have x1 : (96 + a3).toInt = (96 : Int32).toInt + a3.toInt := i_addx _ _ (by omega)
  have x2 : ((96 + a3) + s19.1 1 (1920 + a1.toInt.toNat)).toInt = (96 + a3).toInt + (s19.1 1 (1920 + a1.toInt.toNat)).toInt := i_addx _ _ (by omega)
  have cl := cl_nat ((96 + a3) + s19.1 1 (1920 + a1.toInt.toNat))
  have h21 : NLp n0 s21 := fun p hp => by
    rw [e, pL_2, if_neg (fun z => by have := z.2; omega)]
    exact h7 p hp
  exact pq_b (ft_X12_ahead s21) (fun _ s23 g => pq_s (nl_t h21 g rfl))
def T54 (s : Sg) : Prop := s.1 54 6 = 0
abbrev MT54 : Nat := 2037035976334486086268445267160211486822721601993825515954411173773999697566891688939487231
theorem th_t {s s' : Sg} {L : Nat} (h : T54 s) (f : Fr cC L s s') (hL : L &&& MT54 = L) : T54 s' := by
  unfold T54
  rw [fr_e (fr_up f hL) 54 6 218 rfl rfl]
  exact h
theorem th_i {s : Sg} {c k : Nat} {v : Int32} (h : T54 s) (m : Nat) (hm : cC c k = m) (hL : MT54.testBit m = true) : T54 (pI s c k v) := th_t h (fr_x m hm) (m_and hL)

theorem nl_X12_aHouse_b144 {n0 : Sg}  (s : Sg) (hJ : NLp n0 s) : PQ (f_X12_aHouse_b144  s) (fun _ s9 => NLp n0 s9) := by
  unfold f_X12_aHouse_b144
  exact pq_s (nl_i hJ 1 rfl rfl)
theorem nl_X12_aHouse_b106 {n0 : Sg} (v1 : Int32) (v3 : Int32) (s : Sg) (hJ : NLp n0 s) : PQ (f_X12_aHouse_b106 v1 v3 s) (fun _ s9 => NLp n0 s9) := by
  unfold f_X12_aHouse_b106
  refine pq_b (ft_X12_inWords_1001  _) (fun _ s11 gs11 => ?_)
  have js11 := nl_t hJ gs11 rfl
  refine pq_if (fun _ => ?_) (fun _ => ?_)
  · refine pq_if (fun _ => ?_) (fun _ => ?_)
    · refine pq_n (fun s12 es12 => ?_)
      have js12 : NLp n0 s12 := by rw [es12]; exact (nl_i js11 1 rfl rfl)
      refine pq_b (ft_X12_ahead  _) (fun _ s14 gs14 => ?_)
      have js14 := nl_t js12 gs14 rfl
      exact nl_X12_aHouse_b144  _ js14
    · refine pq_b (ft_X12_fails _ _) (fun _ s16 gs16 => ?_)
      have js16 := nl_t js11 gs16 rfl
      refine pq_c (fun _ => ?_)
      exact pq_s js16
  · exact nl_X12_aHouse_b144  _ js11
theorem nl_X12_aHouse_b81 {n0 : Sg} (v1 : Int32) (v2 : Int32) (v3 : Int32) (s : Sg) (hJ : NLp n0 s) : PQ (f_X12_aHouse_b81 v1 v2 v3 s) (fun _ s9 => NLp n0 s9) := by
  unfold f_X12_aHouse_b81
  refine pq_b (ft_X12_isThere _ _) (fun _ s9 gs9 => ?_)
  have js9 := nl_t hJ gs9 rfl
  refine pq_if (fun _ => ?_) (fun _ => ?_)
  · exact nl_X12_aHouse_b106 _ _ _ js9
  · refine pq_b (ft_X12_number _ _ _ _) (fun _ s18 gs18 => ?_)
    have js18 := nl_t js9 gs18 rfl
    refine pq_if (fun _ => ?_) (fun _ => ?_)
    · exact pq_s js18
    · exact nl_X12_aHouse_b106 _ _ _ js18
theorem nl_X12_aHouse_b57 {n0 : Sg} (v1 : Int32) (v2 : Int32) (t0 : Int32) (s : Sg) (hJ : NLp n0 s) : PQ (f_X12_aHouse_b57 v1 v2 t0 s) (fun _ s9 => NLp n0 s9) := by
  unfold f_X12_aHouse_b57
  refine pq_b (ft_X12_isThere _ _) (fun _ s7 gs7 => ?_)
  have js7 := nl_t hJ gs7 rfl
  refine pq_if (fun _ => ?_) (fun _ => ?_)
  · exact nl_X12_aHouse_b81 _ _ _ _ js7
  · refine pq_b (ft_X12_number _ _ _ _) (fun _ s20 gs20 => ?_)
    have js20 := nl_t js7 gs20 rfl
    refine pq_if (fun _ => ?_) (fun _ => ?_)
    · exact pq_s js20
    · exact nl_X12_aHouse_b81 _ _ _ _ js20
theorem nl_X12_aHouse_b52 {n0 : Sg} (v1 : Int32) (v2 : Int32) (s : Sg) (hJ : NLp n0 s) : PQ (f_X12_aHouse_b52 v1 v2 s) (fun _ s9 => NLp n0 s9) := by
  unfold f_X12_aHouse_b52
  exact nl_X12_aHouse_b57 _ _ _ _ hJ
theorem nl_X12_aHouse  {n0 s : Sg} (hC : CntN s) (hJ : NLp n0 s) : PQ (f_X12_aHouse  s) (fun _ s9 => NLp n0 s9) := by
  unfold f_X12_aHouse
  refine pq_n (fun x1 _ => ?_)
  refine pq_b (nl_new _ _ _ hC (by decide) hJ) (fun _ s3 gs3 => ?_)
  refine pq_if (fun _ => ?_) (fun _ => ?_)
  · exact pq_s gs3
  · refine pq_b (ft_X12_inWords_1001  _) (fun _ s5 gs5 => ?_)
    have js5 := nl_t gs3 gs5 rfl
    refine pq_if (fun _ => ?_) (fun _ => ?_)
    · exact nl_X12_aHouse_b52 _ _ _ js5
    · refine pq_b (ft_X12_inWords_1001  _) (fun _ s22 gs22 => ?_)
      have js22 := nl_t js5 gs22 rfl
      refine pq_if (fun _ => ?_) (fun _ => ?_)
      · exact nl_X12_aHouse_b52 _ _ _ js22
      · exact nl_X12_aHouse_b57 _ _ _ _ js22

theorem nl_X12_aQuarrel  {n0 s : Sg} (hC : CntN s) (hJ : NLp n0 s) : PQ (f_X12_aQuarrel  s) (fun _ s9 => NLp n0 s9) := by
  unfold f_X12_aQuarrel
  refine pq_n (fun x1 _ => ?_)
  refine pq_b (nl_new _ _ _ hC (by decide) hJ) (fun _ s3 gs3 => ?_)
  refine pq_if (fun _ => ?_) (fun _ => ?_)
  · exact pq_s gs3
  · refine pq_b (ft_X12_wantWord_1001 _ _) (fun _ s5 gs5 => ?_)
    have js5 := nl_t gs3 gs5 rfl
    refine pq_if (fun _ => ?_) (fun _ => ?_)
    · exact pq_s js5
    · refine pq_b (ft_X12_twoHouses _ _ _ _) (fun _ s7 gs7 => ?_)
      have js7 := nl_t js5 gs7 rfl
      refine pq_if (fun _ => ?_) (fun _ => ?_)
      · exact pq_s js7
      · refine pq_b (ft_X12_wantWord_1001 _ _) (fun _ s9 gs9 => ?_)
        have js9 := nl_t js7 gs9 rfl
        refine pq_if (fun _ => ?_) (fun _ => ?_)
        · exact pq_s js9
        · refine pq_b (ft_X12_number _ _ _ _) (fun _ s11 gs11 => ?_)
          have js11 := nl_t js9 gs11 rfl
          refine pq_if (fun _ => ?_) (fun _ => ?_)
          · exact pq_s js11
          · refine pq_n (fun s12 es12 => ?_)
            have js12 : NLp n0 s12 := by rw [es12]; exact (nl_i js11 1 rfl rfl)
            exact pq_s js12

theorem nl_X12_aCat  {n0 s : Sg} (hC : CntN s) (hJ : NLp n0 s) : PQ (f_X12_aCat  s) (fun _ s9 => NLp n0 s9) := by
  unfold f_X12_aCat
  refine pq_n (fun x1 _ => ?_)
  refine pq_b (nl_new _ _ _ hC (by decide) hJ) (fun _ s3 gs3 => ?_)
  refine pq_if (fun _ => ?_) (fun _ => ?_)
  · exact pq_s gs3
  · refine pq_b (ft_X12_wantWord_1001 _ _) (fun _ s5 gs5 => ?_)
    have js5 := nl_t gs3 gs5 rfl
    refine pq_if (fun _ => ?_) (fun _ => ?_)
    · exact pq_s js5
    · refine pq_b (ft_X12_twoHouses _ _ _ _) (fun _ s7 gs7 => ?_)
      have js7 := nl_t js5 gs7 rfl
      refine pq_if (fun _ => ?_) (fun _ => ?_)
      · exact pq_s js7
      · refine pq_b (ft_X12_wantWord_1001 _ _) (fun _ s9 gs9 => ?_)
        have js9 := nl_t js7 gs9 rfl
        refine pq_if (fun _ => ?_) (fun _ => ?_)
        · exact pq_s js9
        · refine pq_b (ft_X12_number _ _ _ _) (fun _ s11 gs11 => ?_)
          have js11 := nl_t js9 gs11 rfl
          refine pq_if (fun _ => ?_) (fun _ => ?_)
          · exact pq_s js11
          · refine pq_n (fun s12 es12 => ?_)
            have js12 : NLp n0 s12 := by rw [es12]; exact (nl_i js11 1 rfl rfl)
            exact pq_s js12

theorem nl_X12_aGrocer_b101 {n0 : Sg}  (s : Sg) (hJ : NLp n0 s) : PQ (f_X12_aGrocer_b101  s) (fun _ s9 => NLp n0 s9) := by
  unfold f_X12_aGrocer_b101
  exact pq_s (nl_i hJ 1 rfl rfl)
theorem nl_X12_aGrocer  {n0 s : Sg} (hC : CntN s) (hJ : NLp n0 s) : PQ (f_X12_aGrocer  s) (fun _ s9 => NLp n0 s9) := by
  unfold f_X12_aGrocer
  refine pq_n (fun x1 _ => ?_)
  refine pq_b (nl_new _ _ _ hC (by decide) hJ) (fun _ s3 gs3 => ?_)
  refine pq_if (fun _ => ?_) (fun _ => ?_)
  · exact pq_s gs3
  · refine pq_b (ft_X12_wantWord_1001 _ _) (fun _ s5 gs5 => ?_)
    have js5 := nl_t gs3 gs5 rfl
    refine pq_if (fun _ => ?_) (fun _ => ?_)
    · exact pq_s js5
    · refine pq_b (ft_X12_number _ _ _ _) (fun _ s7 gs7 => ?_)
      have js7 := nl_t js5 gs7 rfl
      refine pq_if (fun _ => ?_) (fun _ => ?_)
      · exact pq_s js7
      · refine pq_b (ft_X12_wantWord_1001 _ _) (fun _ s9 gs9 => ?_)
        have js9 := nl_t js7 gs9 rfl
        refine pq_if (fun _ => ?_) (fun _ => ?_)
        · exact pq_s js9
        · refine pq_b (ft_X12_number _ _ _ _) (fun _ s11 gs11 => ?_)
          have js11 := nl_t js9 gs11 rfl
          refine pq_if (fun _ => ?_) (fun _ => ?_)
          · exact pq_s js11
          · refine pq_b (ft_X12_isThere _ _) (fun _ s13 gs13 => ?_)
            have js13 := nl_t js11 gs13 rfl
            refine pq_if (fun _ => ?_) (fun _ => ?_)
            · exact nl_X12_aGrocer_b101  _ js13
            · refine pq_b (ft_X12_number _ _ _ _) (fun _ s15 gs15 => ?_)
              have js15 := nl_t js13 gs15 rfl
              refine pq_if (fun _ => ?_) (fun _ => ?_)
              · exact pq_s js15
              · exact nl_X12_aGrocer_b101  _ js15

theorem nl_X12_streetPart_b102 {n0 : Sg} (v1 : Int32) (s : Sg) (hJ : NLp n0 s) : PQ (f_X12_streetPart_b102 v1 s) (fun _ s9 => NLp n0 s9) := by
  unfold f_X12_streetPart_b102
  refine pq_if (fun _ => ?_) (fun _ => ?_)
  · exact pq_s hJ
  · refine pq_b (ft_X12_wantSign _ _) (fun _ s6 gs6 => ?_)
    have js6 := nl_t hJ gs6 rfl
    refine pq_if (fun _ => ?_) (fun _ => ?_)
    · exact pq_s js6
    · exact pq_s js6

theorem th_X6_takeText_b21 (n : Nat) : ∀ (v1 : Int32) (v2 : Int32) (s : Sg), T54 s → PQ (f_X6_takeText_b21 n v1 v2 s) (fun _ s9 => T54 s9) := by
  induction n with
  | zero => intro v1 v2 s _ r s9 e; cases e
  | succ n ih =>
    intro v1 v2 s hJ
    unfold f_X6_takeText_b21
    refine pq_if (fun _ => ?_) (fun _ => ?_)
    · refine pq_c (fun _ => ?_)
      exact pq_s hJ
    · refine pq_if (fun _ => ?_) (fun _ => ?_)
      · refine pq_c (fun _ => ?_)
        exact pq_s hJ
      · refine pq_if (fun _ => ?_) (fun _ => ?_)
        · refine pq_c (fun _ => ?_)
          exact pq_s hJ
        · refine pq_if (fun _ => ?_) (fun _ => ?_)
          · refine pq_b (ft_X6_takeHouse  _) (fun _ s4 gs4 => ?_)
            have js4 := th_t hJ gs4 rfl
            exact ih _ _ _ js4
          · refine pq_if (fun _ => ?_) (fun _ => ?_)
            · refine pq_b (ft_X7_wrong _ _) (fun _ s6 gs6 => ?_)
              have js6 := th_t hJ gs6 rfl
              exact ih _ _ _ js6
            · refine pq_if (fun _ => ?_) (fun _ => ?_)
              · refine pq_b (ft_X7_wrong _ _) (fun _ s8 gs8 => ?_)
                have js8 := th_t hJ gs8 rfl
                exact ih _ _ _ js8
              · refine pq_if (fun _ => ?_) (fun _ => ?_)
                · refine pq_b (ft_X6_takeCounts  _) (fun _ s10 gs10 => ?_)
                  have js10 := th_t hJ gs10 rfl
                  exact ih _ _ _ js10
                · refine pq_if (fun _ => ?_) (fun _ => ?_)
                  · refine pq_b (ft_X6_takeQuarrel  _) (fun _ s12 gs12 => ?_)
                    have js12 := th_t hJ gs12 rfl
                    exact ih _ _ _ js12
                  · refine pq_if (fun _ => ?_) (fun _ => ?_)
                    · refine pq_b (ft_X7_wrong _ _) (fun _ s14 gs14 => ?_)
                      have js14 := th_t hJ gs14 rfl
                      exact ih _ _ _ js14
                    · refine pq_if (fun _ => ?_) (fun _ => ?_)
                      · refine pq_b (ft_X7_wrong _ _) (fun _ s16 gs16 => ?_)
                        have js16 := th_t hJ gs16 rfl
                        exact ih _ _ _ js16
                      · refine pq_if (fun _ => ?_) (fun _ => ?_)
                        · refine pq_b (ft_X7_wrong _ _) (fun _ s18 gs18 => ?_)
                          have js18 := th_t hJ gs18 rfl
                          exact ih _ _ _ js18
                        · refine pq_if (fun _ => ?_) (fun _ => ?_)
                          · refine pq_b (ft_X6_takeCat  _) (fun _ s20 gs20 => ?_)
                            have js20 := th_t hJ gs20 rfl
                            exact ih _ _ _ js20
                          · refine pq_if (fun _ => ?_) (fun _ => ?_)
                            · refine pq_b (ft_X7_wrong _ _) (fun _ s22 gs22 => ?_)
                              have js22 := th_t hJ gs22 rfl
                              exact ih _ _ _ js22
                            · refine pq_if (fun _ => ?_) (fun _ => ?_)
                              · refine pq_b (ft_X7_wrong _ _) (fun _ s24 gs24 => ?_)
                                have js24 := th_t hJ gs24 rfl
                                exact ih _ _ _ js24
                              · refine pq_if (fun _ => ?_) (fun _ => ?_)
                                · refine pq_b (ft_X7_wrong _ _) (fun _ s26 gs26 => ?_)
                                  have js26 := th_t hJ gs26 rfl
                                  exact ih _ _ _ js26
                                · refine pq_if (fun _ => ?_) (fun _ => ?_)
                                  · refine pq_b (ft_X6_takeGrocer  _) (fun _ s28 gs28 => ?_)
                                    have js28 := th_t hJ gs28 rfl
                                    exact ih _ _ _ js28
                                  · refine pq_if (fun _ => ?_) (fun _ => ?_)
                                    · refine pq_b (ft_X7_wrong _ _) (fun _ s30 gs30 => ?_)
                                      have js30 := th_t hJ gs30 rfl
                                      exact ih _ _ _ js30
                                    · refine pq_if (fun _ => ?_) (fun _ => ?_)
                                      · refine pq_b (ft_X7_wrong _ _) (fun _ s32 gs32 => ?_)
                                        have js32 := th_t hJ gs32 rfl
                                        exact ih _ _ _ js32
                                      · refine pq_if (fun _ => ?_) (fun _ => ?_)
                                        · refine pq_b (ft_X7_wrong _ _) (fun _ s34 gs34 => ?_)
                                          have js34 := th_t hJ gs34 rfl
                                          exact ih _ _ _ js34
                                        · refine pq_if (fun _ => ?_) (fun _ => ?_)
                                          · refine pq_b (ft_X6_takeWashes  _) (fun _ s36 gs36 => ?_)
                                            have js36 := th_t hJ gs36 rfl
                                            exact ih _ _ _ js36
                                          · refine pq_b (ft_X7_wrong _ _) (fun _ s38 gs38 => ?_)
                                            have js38 := th_t hJ gs38 rfl
                                            exact ih _ _ _ js38

theorem nl_part {n0 s : Sg} (hC : CntN s) (hJ : NLp n0 s) : PQ (f_X12_streetPart s) (fun _ s9 => NLp n0 s9) := by
  unfold f_X12_streetPart
  refine pq_b (iw_k s) (fun r1 s2 g => ?_)
  subst g
  have b : ∀ (o : Option (Int32 × Sg)), PQ o (fun _ s9 => NLp n0 s9) → PQ (bd o (fun r s => f_X12_streetPart_b102 r s)) (fun _ s9 => NLp n0 s9) := fun o ho => pq_b ho (fun r s4 w => nl_X12_streetPart_b102 r s4 w)
  have o : ∀ a : Int32, PQ (f_X12_once a s2) (fun _ s9 => NLp n0 s9) := fun a => pq_w (ft_X12_once a s2) (fun _ s9 g => nl_t hJ g rfl)
  exact pq_if (fun _ => b _ (nl_X12_aHouse hC hJ)) (fun _ => pq_if (fun _ => b _ (nl_X12_aQuarrel hC hJ)) (fun _ => pq_if (fun _ => b _ (nl_X12_aCat hC hJ)) (fun _ => pq_if (fun _ => b _ (nl_X12_aGrocer hC hJ)) (fun _ => pq_if (fun _ => b _ (o 17)) (fun _ => pq_if (fun _ => b _ (o 18)) (fun _ => pq_b (ft_X12_fails 2 s2) (fun _ s9 g => pq_c (fun _ => pq_s (nl_t hJ g rfl)))))))))
theorem cnt_n {s : Sg} (hR : Rg rM s) : CntN s := fun q hq => rd_cnt (L := 0) (j_refl hR) (1920 + q) (by omega)
theorem j_19 {L : Nat} {s s9 : Sg} (J : JM L s s9) (hb : L &&& 1267650609671809445731386785794 = 0) (h101 : L.testBit 101 = false) (p : Nat) (hp : p < 1920) : s9.1 1 p = s.1 1 p := by
  by_cases d : p < 480
  · exact j_lo J hb p d
  · have e : cdM 1 p = 101 := by
      rw [cdM_x, if_neg (by omega), if_neg (by omega), if_neg (by omega), if_pos (by omega)]
    exact (J.2 1 p (by rw [e]; exact h101)).1
/-- the street in use, the marks: kept, or the call's status is 0 -/
def KpM0 (s s9 : Sg) : Prop := s9.1 0 2 = 0 ∨ ((∀ p, p < 1920 → s9.1 1 p = s.1 1 p) ∧ NLp s s9)
theorem kp_31 (m : Nat) : ∀ (v2 : Int32) (s : Sg), Rg rM s → PQ (f_X12_street_b31 m v2 s) (fun _ s9 => KpM0 s s9) := by
  induction m with
  | zero => intro v2 s _ r s' e; cases e
  | succ m ih =>
    intro v2 s hR
    have fin : PQ (f_X12_street_b50 s) (fun _ s9 => KpM0 s s9) := by
      by_cases hz : s.1 0 18 = 0
      · refine pq_w (swx_50y s hz) (fun r s9 g => Or.inl ?_)
        obtain ⟨s', -, -, e⟩ := g
        rw [e, q_eq]
      · unfold f_X12_street_b50
        rw [if_neg hz]
        refine pq_b (taken_p _ s) (fun r s9 g => pq_s (Or.inr ?_))
        rcases g with g | g
        · rw [g.2.2]
          exact ⟨fun _ _ => rfl, fun _ _ => rfl⟩
        · rw [g.2.2]
          exact ⟨fun _ _ => rfl, fun _ _ => rfl⟩
    unfold f_X12_street_b31
    refine pq_if (fun _ => fin) (fun _ => pq_if (fun _ => fin) (fun _ => ?_))
    refine pq_b (pq_and (pq_o (h_X12_streetPart hR)) (nl_part (cnt_n hR) (n0 := s) (fun _ _ => rfl))) (fun r s2 g => ?_)
    refine pq_w (ih r s2 g.1.1.1) (fun _ s9 w => w.elim Or.inl (fun w => Or.inr ⟨fun p hp => ?_, fun p hp => ?_⟩))
    · rw [w.1 p hp]
      exact j_19 g.1.1 (by decide) rfl p hp
    · rw [w.2 p hp]
      exact g.2 p hp
set_option maxRecDepth 20000 in
theorem kp_street (a1 : Int32) {s : Sg} (hR : Rg rM s) : PQ (f_X12_street a1 s) (fun _ s9 => KpM0 s s9) := by
  unfold f_X12_street
  refine pq_b (pq_and (pq_o (h_X12_begins a1 900 hR (by decide))) (ft_X12_begins a1 900 s)) (fun r s2 g => ?_)
  have q2 : s2.1 1 = s.1 1 := j_c1 g.1.1 (by decide)
  have n2 : s2.2 2 = s.2 2 := funext fun k => fr_e2 g.2 2 k 2 rfl rfl
  refine pq_if (fun _ => ?_) (fun _ => ?_)
  · have w : PQ (some ((-1 : Int32), pI s2 0 2 1)) (fun _ s9 => KpM0 s s9) := pq_s (Or.inr ⟨fun p _ => by rw [q_nc rfl, q2], fun p _ => by show s2.2 2 p = _; rw [n2]⟩)
    exact w
  · refine pq_b (pq_and (pq_o (h_X12_plain 1920 g.1.1.1 (by decide))) (pln_p s2)) (fun _ s6 g6 => ?_)
    have R6 : Rg rM (pI s6 0 20 0) := (show JM 1099511627776 s6 (pI s6 0 20 0) from j_wr 0 3 (j_refl g6.1.1.1) rfl 40 rfl rfl (by decide)).1
    refine pq_w (kp_31 BIG 1 (pI s6 0 20 0) R6) (fun _ s9 w => w.elim Or.inl (fun w => Or.inr ⟨fun p hp => ?_, fun p hp => ?_⟩))
    · rw [w.1 p hp, q_nc rfl, g6.2.2.1 p (by omega), q2]
    · rw [w.2 p hp]
      show s6.2 2 p = _
      rw [g6.2.2.2.2, n2]
abbrev MW24 : Nat := 2251799796908032
theorem fr_w {L : Nat} {s s' : Sg} (f : Fr cC L s s') (hL : L &&& MW24 = 0) (c : Nat) (h : 24 ≤ c ∧ c ≤ 50) : s'.1 c = s.1 c ∧ s'.2 c = s.2 c := by
  have q : ∀ c, c < 51 → 24 ≤ c → MW24.testBit c = true := by decide
  have b : L.testBit c = false := by
    have e : (L &&& MW24).testBit c = false := by rw [hL]; exact Nat.zero_testBit _
    rw [Nat.testBit_and, q c (by omega) (by omega), Bool.and_true] at e
    exact e
  have cd : ∀ k, cC c k = c := fun k => by
    unfold cC
    rw [if_neg (by omega), if_neg (by omega), if_neg (by omega), if_neg (by omega), if_neg (by omega)]
  exact ⟨funext fun k => (f c k (by rw [cd]; exact b)).1, funext fun k => (f c k (by rw [cd]; exact b)).2⟩
/-- the class's street in use: kept, or the call's status is 0 -/
def KpC0 (s s9 : Sg) : Prop := s9.1 0 15 = 0 ∨ ∀ c, (24 ≤ c ∧ c ≤ 50) → s9.1 c = s.1 c ∧ s9.2 c = s.2 c
theorem kc_street (a1 : Int32) (s : Sg) : PQ (f_X11_street a1 s) (fun _ s9 => KpC0 s s9) := by
  unfold f_X11_street
  refine pq_b (wi_p a1 0 (s.1 0 13) s) (fun r1 s2 g => ?_)
  obtain ⟨es, -⟩ := g
  subst es
  have rf : ∀ (w : Int32) (u : Sg), (∀ c, (24 ≤ c ∧ c ≤ 50) → u.1 c = s2.1 c ∧ u.2 c = s2.2 c) → PQ (bd (f_X11_refuse w u) (fun r s => some (r, s))) (fun _ s9 => KpC0 s2 s9) := fun w u hu => by
    have q : PQ (some ((-1 : Int32), pI u 0 15 w)) (fun _ s9 => KpC0 s2 s9) := pq_s (Or.inr (fun c hc => ⟨by rw [pI_o _ _ _ _ _ (by omega)]; exact (hu c hc).1, (hu c hc).2⟩))
    exact q
  refine pq_if (fun _ => rf 1 s2 (fun _ _ => ⟨rfl, rfl⟩)) (fun _ => pq_b (ft_X7_begin a1 s2) (fun _ s6 f6 => pq_b (ft_X6_takeText s6) (fun r7 s8 f8 => pq_b (ct_x s8) (fun _ s10 e10 => pq_if (fun _ => rf 9 s10 (fun c hc => ?_)) (fun _ => pq_b pq_tr (fun _ s14 _ => ?_))))))
  · have a := fr_w f6 (by decide) c hc
    have b := fr_w f8 (by decide) c hc
    constructor
    · rw [e10, pI_o _ _ _ _ _ (by omega), pI_o _ _ _ _ _ (by omega), pI_o _ _ _ _ _ (by omega), b.1, a.1]
    · rw [e10]
      show s8.2 c = _
      rw [b.2, a.2]
  · have q : PQ (some (s14.1 25 14, pI s14 0 15 0)) (fun _ s9 => KpC0 s2 s9) := pq_s (Or.inl q_eq)
    exact q
theorem th_street (a1 : Int32) (s : Sg) : PQ (f_X11_street a1 s) (fun _ s9 => s9.1 0 15 = 0 → s9.1 27 6 = 0) := by
  unfold f_X11_street
  refine pq_b (wi_p a1 0 (s.1 0 13) s) (fun r1 s2 g => ?_)
  have rf : ∀ (w : Int32) (u : Sg), ¬ w = 0 → PQ (bd (f_X11_refuse w u) (fun r s => some (r, s))) (fun _ s9 => s9.1 0 15 = 0 → s9.1 27 6 = 0) := fun w u hw => by
    have q : PQ (some ((-1 : Int32), pI u 0 15 w)) (fun _ s9 => s9.1 0 15 = 0 → s9.1 27 6 = 0) := pq_s (fun z => absurd z (by rw [q_eq]; exact hw))
    exact q
  refine pq_if (fun _ => rf 1 s2 (by decide)) (fun _ => pq_b (ft_X7_begin a1 s2) (fun _ s6 f6 => pq_b (P := fun _ s8 => s8.1 54 6 = 0) ?_ (fun r7 s8 z8 => pq_b (ct_x s8) (fun _ s10 e10 => pq_if (fun _ => rf 9 s10 (by decide)) (fun _ => pq_b (cw_X10_copyFrom_51 s10) (fun _ s14 w => ?_))))))
  · unfold f_X6_takeText
    refine pq_b (clr_51 s6) (fun _ s2 c => th_X6_takeText_b21 BIG 1 0 _ ?_)
    unfold T54
    rw [q_nc rfl, q_nc rfl]
    exact c.2.2.1.1
  · have q : PQ (some (s14.1 25 14, pI s14 0 15 0)) (fun _ s9 => s9.1 0 15 = 0 → s9.1 27 6 = 0) := pq_s (fun _ => by
      rw [q_nc rfl]
      have a : s14.1 27 6 = s10.1 54 6 := w.2.1 3 6 (by decide) (by decide) (by decide) (by decide)
      rw [a, e10, q_nc rfl, q_nc rfl, q_nc rfl]
      exact z8)
    exact q
/-! a street that is taken: all of it, on both sides -/
def cnM (M : Nat → Int32) : Nat → Nat := fun q => if q < 4 then (M q).toInt.toNat else 0
def NmsR (b : Nat) (s : Sg) (mm : Nat → Int64) (M : Nat → Int32) : Prop := ∃ N : Nat, (s.1 (b + 1) 12).toInt = (N : Int) ∧ NmR (s.2 (b + 4)) (s.1 (b + 5)) (s.1 (b + 6)) N mm (cnM M)
theorem nmr_c {nm nm' : Nat → Int64} {so nu so' nu' : Nat → Int32} {N : Nat} {mm mm' : Nat → Int64} {cnt : Nat → Nat} (h : NmR nm so nu N mm cnt) (h1 : ∀ i, i < N → nm' i = nm i ∧ so' i = so i ∧ nu' i = nu i) (h2 : ∀ q j, q < 4 → j < cnt q → mm' (offN q + j) = mm (offN q + j)) : NmR nm' so' nu' N mm' cnt := by
  refine ⟨h.1, fun i hi => ?_, fun q j hq hj => ?_, fun i i' hi hi' e => ?_⟩
  · obtain ⟨q, j, a1, a2, a3, a4, a5⟩ := h.2.1 i hi
    have w := h1 i hi
    exact ⟨q, j, a1, a2, by rw [w.2.1]; exact a3, by rw [w.2.2]; exact a4, by rw [w.1, h2 q j a1 a2]; exact a5⟩
  · obtain ⟨i, a1, a2, a3⟩ := h.2.2.1 q j hq hj
    have w := h1 i a1
    exact ⟨i, a1, by rw [w.2.1]; exact a2, by rw [w.2.2]; exact a3⟩
  · rw [(h1 i hi).1, (h1 i' hi').1] at e
    exact h.2.2.2 i i' hi hi' e
theorem cn_24 {M : Nat → Int32} (c : (0 ≤ (M 0).toInt ∧ (M 0).toInt ≤ 8) ∧ (0 ≤ (M 1).toInt ∧ (M 1).toInt ≤ 8) ∧ (0 ≤ (M 2).toInt ∧ (M 2).toInt ≤ 4) ∧ (0 ≤ (M 3).toInt ∧ (M 3).toInt ≤ 4)) : (cnM M 0 ≤ 8 ∧ cnM M 1 ≤ 8 ∧ cnM M 2 ≤ 4 ∧ cnM M 3 ≤ 4) ∧ ∀ q j, q < 4 → j < cnM M q → offN q + j < 24 := by
  have a0 : cnM M 0 = (M 0).toInt.toNat := rfl
  have a1 : cnM M 1 = (M 1).toInt.toNat := rfl
  have a2 : cnM M 2 = (M 2).toInt.toNat := rfl
  have a3 : cnM M 3 = (M 3).toInt.toNat := rfl
  have o0 : offN 0 = 0 := rfl
  have o1 : offN 1 = 8 := rfl
  have o2 : offN 2 = 16 := rfl
  have o3 : offN 3 = 20 := rfl
  refine ⟨by omega, fun q j hq hj => ?_⟩
  have w : q = 0 ∨ q = 1 ∨ q = 2 ∨ q = 3 := by omega
  rcases w with w | w | w | w <;> subst w <;> omega
/-- a world copied: its names -/
theorem nms_cp {b d : Nat} {s s' : Sg} {mm mm' : Nat → Int64} {M M' : Nat → Int32} (h : NmsR b s mm M) (c : (0 ≤ (M 0).toInt ∧ (M 0).toInt ≤ 8) ∧ (0 ≤ (M 1).toInt ∧ (M 1).toInt ≤ 8) ∧ (0 ≤ (M 2).toInt ∧ (M 2).toInt ≤ 4) ∧ (0 ≤ (M 3).toInt ∧ (M 3).toInt ≤ 4)) (e12 : s'.1 (d + 1) 12 = s.1 (b + 1) 12) (e4 : ∀ k, k < 24 → s'.2 (d + 4) k = s.2 (b + 4) k) (e5 : ∀ k, k < 24 → s'.1 (d + 5) k = s.1 (b + 5) k) (e6 : ∀ k, k < 24 → s'.1 (d + 6) k = s.1 (b + 6) k) (eM : ∀ k, k < 4 → M' k = M k) (em : ∀ k, k < 24 → mm' k = mm k) : NmsR d s' mm' M' := by
  obtain ⟨N, h1, h2⟩ := h
  have b4 := cn_24 c
  have ec : cnM M' = cnM M := by
    funext q
    unfold cnM
    by_cases z : q < 4
    · rw [if_pos z, if_pos z, eM q z]
    · rw [if_neg z, if_neg z]
  have hN : N ≤ 24 := by
    have := h2.1
    have := b4.1
    omega
  refine ⟨N, by rw [e12]; exact h1, ?_⟩
  rw [ec]
  exact nmr_c h2 (fun i hi => ⟨e4 i (by omega), e5 i (by omega), e6 i (by omega)⟩) (fun q j hq hj => em _ (b4.2 q j hq hj))
/-- fresh: as a street that is taken just now -/
def FreshP (s t : Sg) : Prop := ((PlnR 24 s (t.1 1) ∧ GrdT 0 s (t.1 1) ∧ OvR 0 s (t.1 1)) ∧ (t.1 1 10 = 0 ∨ t.1 1 10 = 1) ∧ PlB (t.1 1) ∧ Gz (t.1 1)) ∧ (s.1 26 6 = t.1 1 4 ∧ t.1 1 4 = 0) ∧ NmsR 24 s (t.2 2) (t.1 1) ∧ t.1 1 11 = -1
theorem fresh_of {n : Nat} {s s10 s14 t t' : Sg} (h : SR n s t) (hb : BdN t) (es : ∀ c, ¬ c = 0 → s10.1 c = s.1 c) (es2 : s10.2 = s.2) (w : CpW 51 24 s10 s14) (m : CpM 4 0 t t') : FreshP (pI s14 0 15 0) (pI (pI t' 0 16 0) 0 2 0) := by
  obtain ⟨⟨h1, h2, h3⟩, hp, hg, hn⟩ := h
  have hp : PlnR 51 s (mN t) := hp
  have cS : ∀ i k, 1 ≤ i → i ≤ 26 → loW i ≤ k → k < hiW i → (pI s14 0 15 0).1 (24 + i) k = s.1 (51 + i) k := fun i k i1 i2 k1 k2 => by
    rw [pI_o _ _ _ _ _ (by omega), w.2.1 i k i1 i2 k1 k2, es (51 + i) (by omega)]
  have cN : ∀ k, k < 24 → (pI s14 0 15 0).2 (24 + 4) k = s.2 (51 + 4) k := fun k hk => by
    show s14.2 (24 + 4) k = _
    rw [w.2.2 k hk, es2]
  have cM : ∀ p, p < 480 → (pI (pI t' 0 16 0) 0 2 0).1 1 p = mN t p := fun p hp => by
    rw [q_nc rfl, q_nc rfl]
    have x := m.1.1 p hp
    rw [show 480 * 0 + p = p by omega, show 480 * 4 + p = 1920 + p by omega] at x
    exact x
  have cm : ∀ p, p < 24 → (pI (pI t' 0 16 0) 0 2 0).2 2 p = nmN t p := fun p hp => by
    have x := m.2.1.1 p hp
    rw [show 24 * 0 + p = p by omega, show 24 * 4 + p = 96 + p by omega] at x
    exact x
  generalize pI s14 0 15 0 = S at cS cN ⊢
  generalize pI (pI t' 0 16 0) 0 2 0 = T at cM cm ⊢
  have pM : ∀ k, PlP k → T.1 1 k = mN t k := fun k hk => cM k (by
    rcases hk with z | z | z | z | ⟨q', z, z'⟩ | ⟨c', z, z'⟩ | ⟨g', z, z'⟩ <;> omega)
  have bb := hp.2.1
  obtain ⟨g1, g2, g3, g4, g5, g6⟩ := hg
  have n24 : ∀ q, q < 8 → T.1 1 (43 + 5 * q) = 0 := fun q hq => by rw [cM _ (by omega)]; exact (g3 q hq).2.1
  refine ⟨⟨⟨pln_g (b := 51) (d := 24) hp (fun k k1 k2 => cS 1 k (by decide) (by decide) (by show 12 ≤ k; omega) (by show k < 20; omega)) (fun i k i1 i2 hk => ?_) pM, fun c k p g => ?_, fun q hq => Or.inl (n24 q hq), fun q hq _ => n24 q hq, fun i hi => ?_⟩, ?_, plb_g hb.1.1 ⟨bb.2.1.2, bb.2.2.1.2, bb.2.2.2.2⟩ pM, fun x hx hx9 => ?_⟩, ⟨?_, ?_⟩, ?_, ?_⟩
  · refine cS i k (by omega) (by omega) ?_ ?_
    · unfold loW
      rw [if_neg (by omega), if_neg (by omega), if_neg (by omega)]
      exact Nat.zero_le _
    · unfold hiW
      rw [if_neg (by omega), if_neg (by omega), if_neg (by omega), if_neg (by omega), if_neg (by omega), if_neg (by omega)]
      by_cases z : i ≤ 10
      · rw [if_pos z] at hk ⊢
        exact hk
      · rw [if_neg z] at hk
        rw [if_neg z, if_pos (by omega)]
        exact hk
  · unfold Gp at g
    rw [cM p (by omega)]
    rcases g with ⟨y, z | z | z | z⟩ | ⟨y, z, z'⟩ | ⟨z, y⟩
    · rw [z.1, z.2]
      exact (cS 16 k (by decide) (by decide) (Nat.zero_le _) y).trans (g1 k y).1
    · rw [z.1, z.2]
      exact (cS 17 k (by decide) (by decide) (Nat.zero_le _) y).trans (g1 k y).2.1
    · rw [z.1, z.2]
      exact (cS 18 k (by decide) (by decide) (Nat.zero_le _) y).trans ((g1 k y).2.2.1.trans (g1 k y).2.2.2.symm)
    · rw [z.1, z.2]
      exact (cS 19 k (by decide) (by decide) (Nat.zero_le _) y).trans ((g3 k y).1.trans (g3 k y).2.2.symm)
    · rw [z, z']
      exact (cS 20 k (by decide) (by decide) (Nat.zero_le _) y).trans (g2 k y)
    · rw [z]
      have a := cS 2 k (by decide) (by decide) (by show 5 ≤ k; omega) (by show k < 13; omega)
      have b : s.1 53 k = 0 := g4 k (by omega) (by omega)
      have c : mN t p = 0 := by
        have w : p = 10 ∨ p = 12 ∨ p = 5 ∨ p = 6 ∨ p = 7 ∨ p = 8 := by omega
        rcases w with w | w | w | w | w | w <;> rw [w]
        · exact g5.2.2.2.2.2.1
        · exact g5.2.2.2.2.2.2.2
        · exact g5.2.1
        · exact g5.2.2.1
        · exact g5.2.2.2.1
        · exact g5.2.2.2.2.1
      rw [c]
      exact a.trans b
  · have a : S.1 26 5 = s.1 53 5 := cS 2 5 (by decide) (by decide) (by decide) (by decide)
    show bt (S.1 26 5) i = _
    rw [a, g4 5 (by decide) (by decide), bt_0]
    refine (decide_eq_false (fun z => ?_)).symm
    have z2 := z.2
    rw [n24 i z.1] at z2
    exact absurd z2 (by decide)
  · rw [cM 10 (by decide)]
    exact Or.inl g5.2.2.2.2.2.1
  · rw [cM 9 (by decide)] at hx9
    rw [cM _ (by omega), cM _ (by omega), cM _ (by omega)]
    exact hb.1.2 x hx hx9
  · have a : S.1 26 6 = s.1 53 6 := cS 2 6 (by decide) (by decide) (by decide) (by decide)
    rw [a, g4 6 (by decide) (by decide), cM 4 (by decide)]
    exact g5.1.symm
  · rw [cM 4 (by decide)]
    exact g5.1
  · have hn' : NmsR 51 s (nmN t) (mN t) := hn
    exact nms_cp hn' bb (cS 1 12 (by decide) (by decide) (by decide) (by decide)) cN (fun k hk => cS 5 k (by decide) (by decide) (Nat.zero_le _) hk) (fun k hk => cS 6 k (by decide) (by decide) (Nat.zero_le _) hk) (fun k hk => cM k (by omega)) cm
  · rw [cM 11 (by decide)]
    exact g5.2.2.2.2.2.2.1
theorem bd_0 {t t' : Sg} (m : ClrM t t') : BdN (pI t' 0 20 0) := by
  have M : ∀ k, k < 480 → mN (pI t' 0 20 0) k = if k = 11 then -1 else if k = 13 then 5 else 0 := fun k hk => m.1 k hk
  have M0 : ∀ k, k < 480 → ¬ k = 11 → ¬ k = 13 → mN (pI t' 0 20 0) k = 0 := fun k h1 h2 h3 => by rw [M k h1, if_neg h2, if_neg h3]
  have e0 : (0 : Int32).toInt = 0 := rfl
  have c0 := M0 0 (by decide) (by decide) (by decide)
  have c1 := M0 1 (by decide) (by decide) (by decide)
  have c2 := M0 2 (by decide) (by decide) (by decide)
  have c3 := M0 3 (by decide) (by decide) (by decide)
  have c9 := M0 9 (by decide) (by decide) (by decide)
  have w : mN (pI t' 0 20 0) 13 = 5 := by rw [M 13 (by decide), if_neg (by decide), if_pos rfl]
  refine ⟨⟨⟨fun q hq => ?_, fun q hq => ?_, fun q hq => ?_, by rw [w]; decide, fun h _ => by rw [c9, bt_0], Or.inl (M0 14 (by decide) (by decide) (by decide))⟩, fun x hx hb => ?_⟩, ⟨fun x hx _ => ⟨M0 _ (by omega) (by omega) (by omega), M0 _ (by omega) (by omega) (by omega)⟩, fun x hx => M0 _ (by omega) (by omega) (by omega), fun x hx _ => M0 _ (by omega) (by omega) (by omega)⟩, fun q hq => ?_, ?_⟩
  · rw [c1, e0] at hq
    exact absurd hq (by omega)
  · rw [c2, e0] at hq
    exact absurd hq (by omega)
  · rw [c3, e0] at hq
    exact absurd hq (by omega)
  · exact ⟨M0 _ (by omega) (by omega) (by omega), M0 _ (by omega) (by omega) (by omega), M0 _ (by omega) (by omega) (by omega)⟩
  · rw [c2, e0] at hq
    exact absurd hq (by omega)
  · unfold Cn4
    rw [c0, c1, c2, c3]
    decide
theorem street_f {sC sM : Sg} (a1 : Int32) (e10 : sC.1 0 13 = sM.1 0 10) (hc : 0 ≤ (sM.1 0 10).toInt ∧ (sM.1 0 10).toInt ≤ 900) (tb : TapB sC sM) : RQ (f_X11_street a1 sC) (f_X12_street a1 sM) (fun r s r' t => r = r' ∧ s.1 0 15 = t.1 0 2 ∧ (s.1 0 15 = 0 → FreshP s t)) := by
  refine street_x a1 e10 hc tb (J := BdN) (fun t ht => pq_w (part_b ht) (fun r t' w => w.2)) (fun t t' m => bd_0 m) (rq_s ⟨rfl, by rw [q_eq, q_eq], fun z => absurd z (by rw [q_eq]; decide)⟩) (fun n s t h hb k => ?_) (fun s t h => ?_)
  · refine rq_bC (ct_x s) (fun _ s10 e => rq_bC (cw_X10_copyFrom_51 s10) (fun _ s14 w => ?_))
    have p : RQ (some (s14.1 25 14, pI s14 0 15 0)) (f_X12_street_b50 t) (fun r s r' t => r = r' ∧ s.1 0 15 = t.1 0 2 ∧ (s.1 0 15 = 0 → FreshP s t)) := by
      refine rq_pp (P := fun r s => r = s14.1 25 14 ∧ s = pI s14 0 15 0) (pq_s ⟨rfl, rfl⟩) (swx_50y t h.1.2.1) (fun r s2 r' t2 q y => ?_)
      obtain ⟨s', m, y1, y2⟩ := y
      have a : s14.1 25 14 = s10.1 52 14 := w.2.1 1 14 (by decide) (by decide) (by decide) (by decide)
      have b : s'.1 1 1 = t.1 1 1921 := m.1.1 1 (by decide)
      have d : s10.1 52 14 = s.1 52 14 := by rw [e, q_nc rfl, q_nc rfl, q_nc rfl]
      have f : s.1 52 14 = t.1 1 1921 := h.2.1.1.2.1
      refine ⟨by rw [q.1, y1, a, d, f, b], by rw [q.2, y2, q_eq, q_eq], fun _ => ?_⟩
      rw [q.2, y2]
      exact fresh_of h hb (fun c hc => by rw [e, pI_o _ _ _ _ _ hc, pI_o _ _ _ _ _ hc, pI_o _ _ _ _ _ hc]) (by rw [e]; rfl) w m
    exact p
  · refine rq_bC (ct_x s) (fun _ s10 e => ?_)
    have p : RQ (some ((-1 : Int32), pI s10 0 15 9)) (f_X12_street_b50 t) (fun r s r' t => r = r' ∧ s.1 0 15 = t.1 0 2 ∧ (s.1 0 15 = 0 → FreshP s t)) := by
      have h0 : ¬ t.1 0 18 = 0 := fun z => by
        have h3 := h.2.2
        rw [z] at h3
        exact absurd h3 (by decide)
      exact rq_pp (P := fun r s => r = -1 ∧ s = pI s10 0 15 9) (pq_s ⟨rfl, rfl⟩) (swx_50n t h0 (Int.le_of_lt h.2.2)) (fun r s2 r' t2 q y => ⟨q.1.trans y.1.symm, by rw [q.2, y.2, q_eq, q_eq], fun z => absurd z (by rw [q.2, q_eq]; decide)⟩)
    exact p
/-! days: both readers, a row in work -/
theorem st_all {n : Nat} {sC sM s t : Sg} (w : StT n sC sM s t) : (∀ c, c < 160 → ¬ c = 0 → ¬ c = 7 → s.1 c = sC.1 c ∧ s.2 c = sC.2 c) ∧ (∀ c, c < 20 → ¬ c = 0 → t.1 c = sM.1 c ∧ t.2 c = sM.2 c) ∧ (∀ k, ¬ (12 ≤ k ∧ k ≤ 15) → t.1 0 k = sM.1 0 k) := by
  obtain ⟨-, f, g, -⟩ := w
  refine ⟨fun c h1 h2 h3 => ?_, fun c h1 h2 => ?_, fun k hk => ?_⟩
  · have b : ∀ k, LTC.testBit (cC c k) = false := fun k => by
      unfold cC
      rw [if_neg h2, if_neg h3]
      by_cases a : c = 52
      · rw [if_pos a]; exact b200 (by decide) k
      · rw [if_neg a]
        by_cases a : c = 54
        · rw [if_pos a, show 212 + k = 190 + (22 + k) by omega]; exact b200 (by decide) _
        · rw [if_neg a]
          by_cases a : c = 9
          · rw [if_pos a, show 224 + k = 190 + (34 + k) by omega]; exact b200 (by decide) _
          · rw [if_neg a]
            exact (show ∀ c, c < 160 → LTC.testBit c = false from by decide +kernel) c h1
    exact ⟨funext fun k => (f c k (b k)).1, funext fun k => (f c k (b k)).2⟩
  · have b : ∀ k, LTM.testBit (cdN c k) = false := fun k => by
      unfold cdN
      rw [if_neg h2]
      exact ltm_b c h1
    exact ⟨funext fun k => (g c k (b k)).1, funext fun k => (g c k (b k)).2⟩
  · refine (g 0 k ?_).1
    show LTM.testBit (20 + k) = false
    by_cases a : 20 + k < 40
    · exact (show ∀ m, m < 40 → ¬ (32 ≤ m ∧ m ≤ 35) → LTM.testBit m = false from by decide) (20 + k) a (by omega)
    · exact Nat.testBit_lt_two_pow (Nat.lt_of_lt_of_le (by decide : LTM < 2 ^ 40) (Nat.pow_le_pow_right (by decide) (by omega)))
theorem nu_all {n : Nat} {lo hi : Int} {p : Nat} {sC sM s t : Sg} (w : NuT n lo hi p sC sM s t) : (∀ c, c < 160 → ¬ c = 0 → ¬ c = 7 → s.1 c = sC.1 c ∧ s.2 c = sC.2 c) ∧ (∀ c, c < 20 → ¬ c = 0 → ¬ c = 1 → t.1 c = sM.1 c) ∧ (∀ c, c < 20 → ¬ c = 0 → ¬ c = 1 → t.2 c = sM.2 c) ∧ (∀ k, ¬ (12 ≤ k ∧ k ≤ 15) → t.1 0 k = sM.1 0 k) := by
  obtain ⟨-, f, g, -⟩ := w
  have gb : ∀ c k, c < 20 → ¬ c = 0 → ¬ c = 1 → LTN.testBit (cdN c k) = false := fun c k h1 h2 h3 => by
    unfold cdN
    rw [if_neg h2]
    exact (show ∀ c, c < 20 → ¬ c = 1 → LTN.testBit c = false from by decide) c h1 h3
  refine ⟨fun c h1 h2 h3 => ?_, fun c h1 h2 h3 => funext fun k => (g c k (gb c k h1 h2 h3)).1, fun c h1 h2 h3 => funext fun k => (g c k (gb c k h1 h2 h3)).2, fun k hk => ?_⟩
  · have b : ∀ k, LTD.testBit (cC c k) = false := fun k => by
      unfold cC
      rw [if_neg h2, if_neg h3]
      by_cases a : c = 52
      · rw [if_pos a]; exact b200 (by decide) k
      · rw [if_neg a]
        by_cases a : c = 54
        · rw [if_pos a, show 212 + k = 190 + (22 + k) by omega]; exact b200 (by decide) _
        · rw [if_neg a]
          by_cases a : c = 9
          · rw [if_pos a, show 224 + k = 190 + (34 + k) by omega]; exact b200 (by decide) _
          · rw [if_neg a]
            exact (show ∀ c, c < 160 → LTD.testBit c = false from by decide +kernel) c h1
    exact ⟨funext fun k => (f c k (b k)).1, funext fun k => (f c k (b k)).2⟩
  · refine (g 0 k ?_).1
    show LTN.testBit (20 + k) = false
    by_cases a : 20 + k < 40
    · exact (show ∀ m, m < 40 → 20 ≤ m → ¬ (32 ≤ m ∧ m ≤ 35) → LTN.testBit m = false from by decide) (20 + k) a (by omega) (by omega)
    · exact Nat.testBit_lt_two_pow (Nat.lt_of_lt_of_le (by decide : LTN < 2 ^ 40) (Nat.pow_le_pow_right (by decide) (by omega)))
/-- blocks: what stands on the stack, what is closed, how they nest -/
def Blk (m : Int32) : Prop := m = 25 ∨ m = 2428 ∨ m = 2429 ∨ m = 2430
def OnA (st : Nat → Int32) (dp : Int) (k : Nat) : Prop := ∃ d : Nat, (d : Int) < dp ∧ (st d).toInt = (k : Int)
def NsA (kd pa st : Nat → Int32) (dp : Int) (X : Nat) : Prop := (∀ i j : Nat, i < j → (j : Int) < dp → (st i).toInt < (st j).toInt) ∧ (∀ k, k < X → Blk (kd k) → OnA st dp k ∨ ∃ e : Nat, (k < e ∧ e < X) ∧ (pa k).toInt = (e : Int) ∧ kd e = 26 ∧ (pa e).toInt = (k : Int)) ∧ (∀ d : Nat, (d : Int) < dp → ∃ k : Nat, k < X ∧ (st d).toInt = (k : Int) ∧ Blk (kd k)) ∧ (∀ k, k < X → kd k = 26 → ∃ p : Nat, p < k ∧ (pa k).toInt = (p : Int) ∧ Blk (kd p) ∧ (pa p).toInt = (k : Int) ∧ ¬ OnA st dp p) ∧ (∀ p q : Nat, p < q → q < X → Blk (kd p) → Blk (kd q) → ¬ OnA st dp p → (q : Int) < (pa p).toInt → ¬ OnA st dp q ∧ (pa q).toInt < (pa p).toInt)
theorem ns_e {kd pa kd' pa' st : Nat → Int32} {dp : Int} {X : Nat} (h : NsA kd pa st dp X) (hk : ∀ k, k < X → kd' k = kd k ∧ pa' k = pa k) : NsA kd' pa' st dp X := by
  obtain ⟨h1, h2, h3, h4, h5⟩ := h
  refine ⟨h1, fun k k1 hb => ?_, fun d hd => ?_, fun k k1 z => ?_, fun p q pq q1 b1 b2 n lt => ?_⟩
  · rw [(hk k k1).1] at hb
    rcases h2 k k1 hb with z | ⟨y, ⟨z1, z2⟩, z3, z4, z5⟩
    · exact Or.inl z
    · exact Or.inr ⟨y, ⟨z1, z2⟩, by rw [(hk k k1).2]; exact z3, by rw [(hk y z2).1]; exact z4, by rw [(hk y z2).2]; exact z5⟩
  · obtain ⟨k, k1, k2, k3⟩ := h3 d hd
    exact ⟨k, k1, k2, by rw [(hk k k1).1]; exact k3⟩
  · rw [(hk k k1).1] at z
    obtain ⟨p, p1, p2, p3, p4, p5⟩ := h4 k k1 z
    exact ⟨p, p1, by rw [(hk k k1).2]; exact p2, by rw [(hk p (by omega)).1]; exact p3, by rw [(hk p (by omega)).2]; exact p4, p5⟩
  · rw [(hk p (by omega)).1] at b1
    rw [(hk q q1).1] at b2
    rw [(hk p (by omega)).2] at lt
    have w := h5 p q pq q1 b1 b2 n lt
    exact ⟨w.1, by rw [(hk q q1).2, (hk p (by omega)).2]; exact w.2⟩
theorem ns_k {kd pa st : Nat → Int32} {dp : Int} {X : Nat} (h : NsA kd pa st dp X) (nb : ¬ Blk (kd X)) (n26 : ¬ kd X = 26) : NsA kd pa st dp (X + 1) := by
  obtain ⟨h1, h2, h3, h4, h5⟩ := h
  refine ⟨h1, fun k k1 hb => ?_, fun d hd => ?_, fun k k1 z => ?_, fun p q pq q1 b1 b2 n lt => ?_⟩
  · by_cases y : k = X
    · subst y
      exact absurd hb nb
    · rcases h2 k (by omega) hb with z | ⟨y, ⟨z1, z2⟩, z3⟩
      · exact Or.inl z
      · exact Or.inr ⟨y, ⟨z1, by omega⟩, z3⟩
  · obtain ⟨k, k1, k2⟩ := h3 d hd
    exact ⟨k, by omega, k2⟩
  · by_cases y : k = X
    · subst y
      exact absurd z n26
    · exact h4 k (by omega) z
  · by_cases y : q = X
    · subst y
      exact absurd b2 nb
    · exact h5 p q pq (by omega) b1 b2 n lt
theorem blk_n {m : Int32} (h : Blk m) : ¬ m = 26 := by
  rcases h with z | z | z | z <;> subst z <;> decide
theorem ns_b {kd pa st st' : Nat → Int32} {dp : Int} {X D : Nat} {v : Int32} (h : NsA kd pa st dp X) (hb : Blk (kd X)) (hv : v.toInt = (X : Int)) (hD : dp = (D : Int)) (e8 : ∀ d, st' d = if d = D then v else st d) : NsA kd pa st' (dp + 1) (X + 1) := by
  obtain ⟨h1, h2, h3, h4, h5⟩ := h
  have on : ∀ k, k < X → (OnA st' (dp + 1) k ↔ OnA st dp k) := fun k hk => by
    constructor
    · rintro ⟨d, d1, d2⟩
      rw [e8] at d2
      by_cases y : d = D
      · rw [if_pos y] at d2
        omega
      · rw [if_neg y] at d2
        exact ⟨d, by omega, d2⟩
    · rintro ⟨d, d1, d2⟩
      exact ⟨d, by omega, by rw [e8, if_neg (by omega)]; exact d2⟩
  refine ⟨fun i j ij jd => ?_, fun k k1 hb' => ?_, fun d hd => ?_, fun k k1 z => ?_, fun p q pq q1 b1 b2 n lt => ?_⟩
  · rw [e8, e8, if_neg (by omega)]
    by_cases y : j = D
    · rw [if_pos y]
      obtain ⟨k, k1, k2, -⟩ := h3 i (by omega)
      omega
    · rw [if_neg y]
      exact h1 i j ij (by omega)
  · by_cases y : k = X
    · exact Or.inl ⟨D, by omega, by rw [e8, if_pos rfl]; omega⟩
    · rcases h2 k (by omega) hb' with z | ⟨y, ⟨z1, z2⟩, z3⟩
      · exact Or.inl ((on k (by omega)).mpr z)
      · exact Or.inr ⟨y, ⟨z1, by omega⟩, z3⟩
  · rw [e8]
    by_cases y : d = D
    · rw [if_pos y]
      exact ⟨X, by omega, hv, hb⟩
    · rw [if_neg y]
      obtain ⟨k, k1, k2⟩ := h3 d (by omega)
      exact ⟨k, by omega, k2⟩
  · by_cases y : k = X
    · subst y
      exact absurd z (blk_n hb)
    · obtain ⟨p, p1, p2, p3, p4, p5⟩ := h4 k (by omega) z
      exact ⟨p, p1, p2, p3, p4, fun w => p5 ((on p (by omega)).mp w)⟩
  · have n' : ¬ OnA st dp p := fun w => n ((on p (by omega)).mpr w)
    by_cases y : q = X
    · rcases h2 p (by omega) b1 with z | ⟨y', ⟨z1, z2⟩, z3, -⟩
      · exact absurd z n'
      · omega
    · have w := h5 p q pq (by omega) b1 b2 n' lt
      exact ⟨fun u => w.1 ((on q (by omega)).mp u), w.2⟩
theorem ns_p {kd pa kd' pa' st : Nat → Int32} {dp : Int} {X D pp : Nat} (h : NsA kd pa st dp X) (hD : dp = (D : Int) + 1) (hp : (st D).toInt = (pp : Int)) (ek : ∀ k, k < X → kd' k = kd k) (eX : kd' X = 26) (ep : ∀ k, k < X → ¬ k = pp → pa' k = pa k) (ep2 : (pa' pp).toInt = (X : Int)) (ep3 : (pa' X).toInt = (pp : Int)) : NsA kd' pa' st (dp - 1) (X + 1) := by
  obtain ⟨h1, h2, h3, h4, h5⟩ := h
  have nX : ¬ Blk (kd' X) := fun z => blk_n z eX
  have hpb : pp < X ∧ Blk (kd pp) := by
    obtain ⟨k, k1, k2, k3⟩ := h3 D (by omega)
    have : k = pp := by omega
    subst this
    exact ⟨k1, k3⟩
  have sub : ∀ k, OnA st (dp - 1) k → OnA st dp k := fun k => by
    rintro ⟨d, d1, d2⟩
    exact ⟨d, by omega, d2⟩
  have lt_p : ∀ k, OnA st (dp - 1) k → k < pp := fun k => by
    rintro ⟨d, d1, d2⟩
    have := h1 d D (by omega) (by omega)
    omega
  have cases_ : ∀ k, OnA st dp k → k = pp ∨ OnA st (dp - 1) k := fun k => by
    rintro ⟨d, d1, d2⟩
    by_cases y : d = D
    · rw [y] at d2
      exact Or.inl (by omega)
    · exact Or.inr ⟨d, by omega, d2⟩
  have onp : OnA st dp pp := ⟨D, by omega, hp⟩
  refine ⟨fun i j ij jd => h1 i j ij (by omega), fun k k1 hb => ?_, fun d hd => ?_, fun k k1 z => ?_, fun p q pq q1 b1 b2 n lt => ?_⟩
  · by_cases y : k = X
    · subst y
      exact absurd hb nX
    · by_cases y2 : k = pp
      · subst y2
        exact Or.inr ⟨X, ⟨hpb.1, by omega⟩, ep2, eX, ep3⟩
      · rw [ek k (by omega)] at hb
        rcases h2 k (by omega) hb with z | ⟨y', ⟨z1, z2⟩, z3, z4, z5⟩
        · exact Or.inl ((cases_ k z).resolve_left y2)
        · have ne : ¬ y' = pp := fun w => by
            rw [w] at z4
            exact blk_n hpb.2 z4
          exact Or.inr ⟨y', ⟨z1, by omega⟩, by rw [ep k (by omega) y2]; exact z3, by rw [ek y' z2]; exact z4, by rw [ep y' z2 ne]; exact z5⟩
  · obtain ⟨k, k1, k2, k3⟩ := h3 d (by omega)
    exact ⟨k, by omega, k2, by rw [ek k k1]; exact k3⟩
  · by_cases y : k = X
    · subst y
      exact ⟨pp, hpb.1, ep3, by rw [ek pp hpb.1]; exact hpb.2, ep2, fun w => absurd (lt_p pp w) (Nat.lt_irrefl _)⟩
    · rw [ek k (by omega)] at z
      obtain ⟨p, p1, p2, p3, p4, p5⟩ := h4 k (by omega) z
      have n1 : ¬ k = pp := fun w => by
        rw [w] at z
        exact blk_n hpb.2 z
      have n2 : ¬ p = pp := fun w => by
        rw [w] at p5
        exact p5 onp
      exact ⟨p, p1, by rw [ep k (by omega) n1]; exact p2, by rw [ek p (by omega)]; exact p3, by rw [ep p (by omega) n2]; exact p4, fun w => p5 (sub p w)⟩
  · by_cases y : q = X
    · subst y
      exact absurd b2 nX
    · have qX : q < X := by omega
      rw [ek p (by omega)] at b1
      rw [ek q qX] at b2
      by_cases y2 : p = pp
      · subst y2
        have nq : ¬ OnA st dp q := fun w => by
          rcases cases_ q w with z | z
          · omega
          · have := lt_p q z
            omega
        refine ⟨fun w => nq (sub q w), ?_⟩
        rcases h2 q qX b2 with z | ⟨y', ⟨z1, z2⟩, z3, -⟩
        · exact absurd z nq
        · rw [ep q qX (by omega), ep2]
          omega
      · rw [ep p (by omega) y2] at lt
        have n' : ¬ OnA st dp p := fun w => (cases_ p w).elim y2 n
        have w := h5 p q pq qX b1 b2 n' lt
        have nqp : ¬ q = pp := fun u => by
          rw [u] at w
          exact w.1 onp
        exact ⟨fun u => w.1 (sub q u), by rw [ep q qX nqp, ep p (by omega) y2]; exact w.2⟩
def NsR (B X : Nat) (t : Sg) : Prop := NsA (fun k => t.1 1 (B + 6 * k)) (fun k => t.1 1 (B + 6 * k + 4)) (t.1 8) (t.1 0 22).toInt X
theorem ns_c {B X : Nat} {t t' : Sg} (h : NsR B X t) (hM : ∀ k, k < X → t'.1 1 (B + 6 * k) = t.1 1 (B + 6 * k) ∧ t'.1 1 (B + 6 * k + 4) = t.1 1 (B + 6 * k + 4)) (e8 : t'.1 8 = t.1 8) (e22 : t'.1 0 22 = t.1 0 22) : NsR B X t' := by
  unfold NsR at h ⊢
  rw [e8, e22]
  exact ns_e h hM
/-- a row of the days on both sides -/
def RwA (w th nu ho te m0 m1 m2 m3 m5 : Int32) : Prop := (w = 120 ∧ m0 = 19 ∧ th = m1 ∧ nu = m2) ∨ (w = 119 ∧ m0 = 20 ∧ th = m3 ∧ nu = m2 ∧ ho = m1) ∨ (w = 121 ∧ m0 = 21 ∧ th = m1) ∨ (w = 116 ∧ m0 = 4 ∧ nu = m1) ∨ (w = 122 ∧ m0 = 22 ∧ nu = m1) ∨ (w = 123 ∧ m0 = 23) ∨ (w = 128 ∧ m0 = 25 ∧ nu = m1) ∨ (w = 129 ∧ m0 = 26) ∨ (w = 130 ∧ m0 = 27) ∨ (w = 124 ∧ th = m1 ∧ ((te = 125 ∧ m0 = 2428) ∨ (te = 126 ∧ m0 = 2429) ∨ (te = m5 ∧ (te = 60 ∨ te = 62 ∨ te = 61) ∧ nu = m2 ∧ m0 = 2430)))
/-- a row's numbers are in their places -/
def VdA (m0 m1 m2 m3 c0 c1 c3 g : Int32) : Prop := ((m0 = 19 ∨ m0 = 20 ∨ m0 = 21 ∨ m0 = 2430) → (0 ≤ m1.toInt ∧ m1.toInt < c0.toInt) ∧ ¬ bt g m1.toInt.toNat = true) ∧ (m0 = 20 → 0 ≤ m3.toInt ∧ m3.toInt < c3.toInt) ∧ ((m0 = 2428 ∨ m0 = 2429) → 0 ≤ m1.toInt ∧ m1.toInt < c1.toInt) ∧ (m0 = 25 → 1 ≤ m1.toInt ∧ m1.toInt ≤ 99) ∧ ((m0 = 19 ∨ m0 = 20) → 1 ≤ m2.toInt ∧ m2.toInt ≤ 999) ∧ (m0 = 4 → 0 ≤ m1.toInt ∧ m1.toInt ≤ 16) ∧ (m0 = 22 → 0 ≤ m1.toInt ∧ m1.toInt ≤ 99)
def VdR (B : Nat) (M : Nat → Int32) (k : Nat) : Prop := VdA (M (B + 6 * k)) (M (B + 6 * k + 1)) (M (B + 6 * k + 2)) (M (B + 6 * k + 3)) (M 0) (M 1) (M 3) (M 9)
def RwR (b B : Nat) (s : Sg) (M : Nat → Int32) (k : Nat) : Prop := RwA (s.1 (b + 21) k) (s.1 (b + 22) k) (s.1 (b + 23) k) (s.1 (b + 24) k) (s.1 (b + 25) k) (M (B + 6 * k)) (M (B + 6 * k + 1)) (M (B + 6 * k + 2)) (M (B + 6 * k + 3)) (M (B + 6 * k + 5))
/-- the partner of a block that is closed -/
def PaR (s t : Sg) (k : Nat) : Prop := (s.1 72 k = 124 ∨ s.1 72 k = 128 ∨ s.1 72 k = 129) → (∀ d : Nat, (d : Int) < (t.1 0 22).toInt → ¬ (t.1 8 d).toInt = (k : Int)) → s.1 77 k = t.1 1 (2030 + 6 * k + 4)
def DyR (n : Nat) (dd e : Int) (X : Nat) (s t : Sg) : Prop := ((TkRel n s t ∧ t.1 0 18 = 0) ∧ PlnR 24 s (t.1 1) ∧ NmsR 24 s (t.2 2) (t.1 1)) ∧ ((s.1 54 7 = t.1 1 1931 ∧ s.1 54 8 = t.1 0 23 ∧ (s.1 9 4).toInt = (t.1 0 22).toInt + dd ∧ s.1 54 6 = 1) ∧ ((t.1 1 1931).toInt = (X : Int) + e ∧ (t.1 1 1931).toInt + (t.1 0 22).toInt + dd ≤ 2 * (t.1 0 23).toInt) ∧ (0 ≤ (t.1 0 23).toInt ∧ (t.1 0 23).toInt ≤ 30) ∧ (0 ≤ (t.1 0 22).toInt ∧ (t.1 0 22).toInt + dd ≤ 3)) ∧ ((∀ d : Nat, (d : Int) < (t.1 0 22).toInt → s.1 23 d = t.1 8 d ∧ (0 ≤ (t.1 8 d).toInt ∧ (t.1 8 d).toInt < (X : Int))) ∧ (dd = 1 → (s.1 23 (t.1 0 22).toInt.toNat).toInt = (X : Int)) ∧ NsR 2030 X t) ∧ (∀ k, k < X → (RwR 51 2030 s (t.1 1) k ∧ VdR 2030 (t.1 1) k) ∧ PaR s t k)
theorem dy_x {n : Nat} {dd e : Int} {x : Nat} {s t s' t' : Sg} (h : DyR n dd e x s t) (tk : TkRel n s' t') (kC : ∀ c, (c = 9 ∨ (23 ≤ c ∧ c ≤ 39) ∨ c = 54) → s'.1 c = s.1 c) (k28 : s'.2 28 = s.2 28) (kR : ∀ c, 72 ≤ c → c ≤ 77 → ∀ k, k < x → s'.1 c k = s.1 c k) (m2 : t'.2 2 = t.2 2) (m8 : t'.1 8 = t.1 8) (m0 : t'.1 0 18 = t.1 0 18 ∧ t'.1 0 22 = t.1 0 22 ∧ t'.1 0 23 = t.1 0 23) (mM : ∀ p, ¬ (2030 + 6 * x ≤ p ∧ p < 2036 + 6 * x) → t'.1 1 p = t.1 1 p) : DyR n dd e x s' t' := by
  obtain ⟨⟨⟨h1, h2⟩, h3, N, h4, h5⟩, h6, ⟨h7, h9⟩, h8⟩ := h
  have pM : ∀ k, PlP k → t'.1 1 k = t.1 1 k := fun k hk => mM k (by
    rcases hk with z | z | z | z | ⟨q', z, z'⟩ | ⟨c', z, z'⟩ | ⟨g', z, z'⟩ <;> omega)
  refine ⟨⟨⟨tk, m0.1.trans h2⟩, pln_g h3 (fun k _ _ => by rw [kC 25 (by omega)]) (fun i k i1 i2 _ => by rw [kC (24 + i) (by omega)]) pM, N, ?_, ?_⟩, ?_, ⟨fun d hd => ?_, fun hd => ?_, ns_c h9.2 (fun k hk => ⟨mM _ (by omega), mM _ (by omega)⟩) m8 m0.2.1⟩, fun k hk => ⟨⟨?_, ?_⟩, fun w1 w2 => ?_⟩⟩
  · rw [kC 25 (by omega)]; exact h4
  · have ecn : cnM (t'.1 1) = cnM (t.1 1) := by
      funext q
      unfold cnM
      by_cases z : q < 4
      · rw [if_pos z, if_pos z, pM q (plp_0 (Or.inl z))]
      · rw [if_neg z, if_neg z]
    rw [ecn, m2, kC 29 (by omega), kC 30 (by omega)]
    show NmR (s'.2 28) _ _ _ _ _
    rw [k28]
    exact h5
  · rw [kC 54 (by omega), kC 9 (by omega), m0.2.1, m0.2.2, mM 1931 (by omega)]
    exact h6
  · rw [m0.2.1] at hd
    rw [kC 23 (by omega), m8]
    exact h7 d hd
  · rw [m0.2.1, kC 23 (by omega)]
    exact h9.1 hd
  · have w := (h8 k hk).1.1
    unfold RwR at w ⊢
    rw [kR 72 (by decide) (by decide) k hk, kR 73 (by decide) (by decide) k hk, kR 74 (by decide) (by decide) k hk, kR 75 (by decide) (by decide) k hk, kR 76 (by decide) (by decide) k hk, mM (2030 + 6 * k) (by omega), mM (2030 + 6 * k + 1) (by omega), mM (2030 + 6 * k + 2) (by omega), mM (2030 + 6 * k + 3) (by omega), mM (2030 + 6 * k + 5) (by omega)]
    exact w
  · have w := (h8 k hk).1.2
    unfold VdR at w ⊢
    rw [mM (2030 + 6 * k) (by omega), mM (2030 + 6 * k + 1) (by omega), mM (2030 + 6 * k + 2) (by omega), mM (2030 + 6 * k + 3) (by omega), pM 0 (plp_0 (by omega)), pM 1 (plp_0 (by omega)), pM 3 (plp_0 (by omega)), pM 9 (plp_0 (by omega))]
    exact w
  · rw [kR 77 (by decide) (by decide) k hk, mM (2030 + 6 * k + 4) (by omega)]
    rw [kR 72 (by decide) (by decide) k hk] at w1
    rw [m0.2.1, m8] at w2
    exact (h8 k hk).2 w1 w2
/-- the row in work: one cell and its place have changed; or none -/
def Ch (x c j : Nat) (s t s' t' : Sg) : Prop := s'.1 c x = t'.1 1 (2030 + 6 * x + j) ∧ (∀ c', 72 ≤ c' → c' ≤ 77 → ∀ k, ¬ (c' = c ∧ k = x) → s'.1 c' k = s.1 c' k) ∧ (∀ p, ¬ p = 2030 + 6 * x + j → t'.1 1 p = t.1 1 p)
def ChN (s t s' t' : Sg) : Prop := (∀ c', 72 ≤ c' → c' ≤ 77 → s'.1 c' = s.1 c') ∧ t'.1 1 = t.1 1
theorem dy_st {n : Nat} {dd e : Int} {x : Nat} {s t s' t' : Sg} (w : StT n s t s' t') (h : DyR n dd e x s t) : DyR n dd e x s' t' ∧ ChN s t s' t' := by
  obtain ⟨a, b, c⟩ := st_all w
  exact ⟨dy_x h w.1 (fun c' hc => (a c' (by omega) (by omega) (by omega)).1) (a 28 (by decide) (by decide) (by decide)).2 (fun c' h1 h2 k _ => by rw [(a c' (by omega) (by omega) (by omega)).1]) (b 2 (by decide) (by decide)).2 (b 8 (by decide) (by decide)).1 ⟨c 18 (by omega), c 22 (by omega), c 23 (by omega)⟩ (fun p _ => by rw [(b 1 (by decide) (by decide)).1]), fun c' h1 h2 => (a c' (by omega) (by omega) (by omega)).1, (b 1 (by decide) (by decide)).1⟩
/-- a place of the row in work -/
theorem row_p {x j : Nat} {a : Int32} (ha : a.toInt = 2030 + 6 * (x : Int)) (hx : x < 60) (b : Int32) (hb : b.toInt = (j : Int)) (hj : j < 6) : (a + b).toNatClampNeg = 2030 + 6 * x + j := by
  have e : (a + b).toInt = a.toInt + b.toInt := i_addx _ _ (by omega)
  exact cl_h (by omega)
theorem nu_st {n : Nat} {dd e lo hi : Int} {x j : Nat} {s t s2 t2 : Sg} (h : DyR n dd e x s t) (w : NuT n lo hi (2030 + 6 * x + j) s t s2 t2) (hj : j < 6) : (DyR n dd e x (pI s2 74 x (s2.1 7 7)) t2 ∧ Ch x 74 j s t (pI s2 74 x (s2.1 7 7)) t2) ∧ (lo ≤ (t2.1 1 (2030 + 6 * x + j)).toInt ∧ (t2.1 1 (2030 + 6 * x + j)).toInt ≤ hi) ∧ (s.1 7 2).toInt ≤ ((pI s2 74 x (s2.1 7 7)).1 7 4).toInt := by
  obtain ⟨k1, k2, k3, k4⟩ := nu_all w
  have w6 := w.2.2.2.2.2
  have ec : ∀ c, ¬ c = 74 → (pI s2 74 x (s2.1 7 7)).1 c = s2.1 c := fun c hc => pI_o _ _ _ _ _ hc
  refine ⟨⟨?_, ?_⟩, ?_, ?_⟩
  · refine dy_x h ?_ (fun c hc => by rw [ec c (by omega), (k1 c (by omega) (by omega) (by omega)).1]) (k1 28 (by decide) (by decide) (by decide)).2 (fun c h1 h2 k hk => ?_) (k3 2 (by decide) (by decide) (by decide)) (k2 8 (by decide) (by decide) (by decide)) ⟨k4 18 (by omega), k4 22 (by omega), k4 23 (by omega)⟩ (fun p hp => by rw [w6, if_neg (by omega)])
    · exact tk_f (L1 := 2 ^ 74) (L2 := 0) w.1 (fr_x 74 rfl) fr_r (m_and rfl) rfl
    · rw [pI_1, if_neg (fun z => by have := z.2; omega), (k1 c (by omega) (by omega) (by omega)).1]
  · refine ⟨by rw [q_eq, w6, if_pos rfl], fun c h1 h2 k hk => ?_, fun p hp => by rw [w6, if_neg hp]⟩
    rw [pI_1, if_neg hk, (k1 c (by omega) (by omega) (by omega)).1]
  · rw [w6, if_pos rfl]
    exact w.2.2.2.2.1
  · rw [q_nc rfl]
    exact w.2.2.2.1
theorem num_d {n : Nat} {dd e : Int} {x j : Nat} {s t : Sg} (h : DyR n dd e x s t) (a b lo hi : Int32) (ha : a.toInt = (x : Int)) (hb : b.toNatClampNeg = 2030 + 6 * x + j) (hj : j < 6) : RQ (f_X1_takeNumber a lo hi s) (f_X12_number b lo hi t) (Og (fun s' t' => (DyR n dd e x s' t' ∧ Ch x 74 j s t s' t') ∧ (lo.toInt ≤ (t'.1 1 (2030 + 6 * x + j)).toInt ∧ (t'.1 1 (2030 + 6 * x + j)).toInt ≤ hi.toInt) ∧ (s.1 7 2).toInt ≤ (s'.1 7 4).toInt)) := by
  have key : RQ (f_X1_takeNumber a lo hi s) (bd (f_X12_number b lo hi t) (fun r t' => some (r, t'))) (Og (fun s' t' => (DyR n dd e x s' t' ∧ Ch x 74 j s t s' t') ∧ (lo.toInt ≤ (t'.1 1 (2030 + 6 * x + j)).toInt ∧ (t'.1 1 (2030 + 6 * x + j)).toInt ≤ hi.toInt) ∧ (s.1 7 2).toInt ≤ (s'.1 7 4).toInt)) := by
    unfold f_X1_takeNumber
    refine rq_b2 (num_r h.1.1.1 h.1.1.2 lo hi b _ hb) (fun r s2 r' t2 g => ?_)
    rcases g with ⟨z, z', w⟩ | ⟨z, z', w⟩ <;> subst z <;> subst z'
    · refine rq_iC (fun z => absurd z i10) (fun _ => rq_cC (fun _ => rq_nC (fun s4 e4 => rq_s (Or.inl ⟨rfl, rfl, ?_⟩))))
      rw [cl_h ha] at e4
      rw [e4]
      exact nu_st h w hj
    · exact rq_iC (fun _ => rq_s (Or.inr ⟨rfl, rfl, w⟩)) (fun z => absurd rfl z)
  intro r s' r' t' e1 e2
  exact key r s' r' t' e1 (by rw [e2]; rfl)
theorem rq_find {α β : Type} {n : Nat} {dd e : Int} {x q : Nat} {s t : Sg} (h : DyR n dd e x s t) (hk : s.1 7 3 = 1) (hq : q < 4) {kC : Int32 → Sg → Option (α × Sg)} {kM : Int32 → Sg → Option (β × Sg)} {R : α → Sg → β → Sg → Prop} (base many : Int32) (hb : base.toInt = (offN q : Int)) (hm : many = t.1 1 q) (y : ∀ r, (r = -1 ∨ (0 ≤ r.toInt ∧ r.toInt < (t.1 1 q).toInt)) → f_X12_findHere base many t = some (r, t) → RQ (kC r s) (kM r t) R) : RQ (bd (f_X4_numberOf (s.2 7 6) (codN q) s) kC) (bd (f_X12_findHere base many t) kM) R := by
  obtain ⟨⟨⟨h1, h2⟩, h3, N, h4, h5⟩, -⟩ := h
  have bb := h3.2.1
  have c24 := cn_24 bb
  have hN : N ≤ 24 := by
    have := h5.1
    have := c24.1
    omega
  obtain ⟨b, nab, hbn⟩ := here_r h1 hk
  have cq : cnM (t.1 1) q = (t.1 1 q).toInt.toNat := by
    unfold cnM
    rw [if_pos hq]
  have nn : 0 ≤ (t.1 1 q).toInt := by
    have a : q = 0 ∨ q = 1 ∨ q = 2 ∨ q = 3 := by omega
    rcases a with a | a | a | a <;> subst a
    · exact bb.1.1
    · exact bb.2.1.1
    · exact bb.2.2.1.1
    · exact bb.2.2.2.1
  have ob : offN q + cnM (t.1 1) q ≤ 130 := by
    have o0 : offN 0 = 0 := rfl
    have o1 : offN 1 = 8 := rfl
    have o2 : offN 2 = 16 := rfl
    have o3 : offN 3 = 20 := rfl
    have := c24.1
    have a : q = 0 ∨ q = 1 ∨ q = 2 ∨ q = 3 := by omega
    rcases a with a | a | a | a <;> subst a <;> omega
  have fp := fh_p b t hbn (offN q) (cnM (t.1 1) q) ob base many hb (by rw [hm, cq]; omega)
  refine rq_bC (no_p1 (s.2 7 6) (codN q) N s h4 hN) (fun r1 s2 c => rq_bM (pq_and fp (show PQ _ (fun r t' => f_X12_findHere base many t = some (r, t')) from fun r t' e => e)) (fun r2 t2 m => ?_))
  obtain ⟨es, c⟩ := c
  obtain ⟨⟨et, m⟩, e2⟩ := m
  subst es
  have h5' : NmR (s2.2 28) (s2.1 29) (s2.1 30) N (t.2 2) (cnM (t.1 1)) := h5
  have er := fnd_e h5' nab hq c m
  rw [et] at e2 ⊢
  rw [er]
  refine y r2 ?_ e2
  rcases m with ⟨k, m1, m2, m3⟩ | ⟨m1, m2⟩
  · right
    omega
  · exact Or.inl m2
/-- a name's number comes to a cell of the row -/
theorem store_d {n : Nat} {dd e : Int} {x cc j : Nat} {s t : Sg} (h : DyR n dd e x s t) (hc : cc = 73 ∨ cc = 75) (hj : j < 6) (r : Int32) : DyR n dd e x (pI (pI s 7 7 r) cc x r) (pI t 1 (2030 + 6 * x + j) r) ∧ Ch x cc j s t (pI (pI s 7 7 r) cc x r) (pI t 1 (2030 + 6 * x + j) r) := by
  have ec : ∀ c, ¬ c = 7 → ¬ c = cc → (pI (pI s 7 7 r) cc x r).1 c = s.1 c := fun c h1 h2 => by rw [pI_o _ _ _ _ _ h2, pI_o _ _ _ _ _ h1]
  refine ⟨dy_x h ?_ (fun c hc' => ec c (by omega) (by omega)) rfl (fun c h1 h2 k hk => ?_) rfl (pI_o _ _ _ _ _ (by decide)) ⟨q_nc rfl, q_nc rfl, q_nc rfl⟩ (fun p hp => ?_), ?_, fun c h1 h2 k hk => ?_, fun p hp => ?_⟩
  · have t1 : TkRel n (pI s 7 7 r) t := tk_f (L1 := 2 ^ 187) (L2 := 0) h.1.1.1 (fr_x 187 rfl) fr_r (m_and rfl) rfl
    rcases hc with z | z <;> subst z
    · exact tk_f (L1 := 2 ^ 73) (L2 := 2 ^ 1) t1 (fr_x 73 rfl) (fr_x 1 rfl) (m_and rfl) (m_and rfl)
    · exact tk_f (L1 := 2 ^ 75) (L2 := 2 ^ 1) t1 (fr_x 75 rfl) (fr_x 1 rfl) (m_and rfl) (m_and rfl)
  · rw [pI_1, if_neg (fun z => by have := z.2; omega), pI_o _ _ _ _ _ (by omega)]
  · rw [pI_1, if_neg (fun z => by have := z.2; omega)]
  · rw [q_eq, q_eq]
  · rw [pI_1, if_neg hk, pI_o _ _ _ _ _ (by omega)]
  · rw [pI_1, if_neg (fun z => hp z.2)]
theorem fl_w {n : Nat} {s t : Sg} {H : Sg → Sg → Prop} (h : TkRel n s t) (h0 : t.1 0 18 = 0) (a : Int32) (ha : 0 < a.toInt) : RQ (bd (f_X7_wrong a s) (fun r s => if r = 0 then some ((0 : Int32), s) else some (1, s))) (bd (f_X12_fails a t) (fun r t => ck (r = 0 ∨ r = 1) (some (r, t)))) (Og H) :=
  rq_b2 (fails_r h h0 a ha) (fun r s r' t g => by
    rw [g.1]
    exact rq_iC (fun _ => rq_cM (fun _ => rq_s (Or.inr ⟨rfl, g.2.1, g.2.2⟩))) (fun z => absurd rfl z))
/-- the end of both: the number stored, the token passed -/
theorem oldO {to base many r : Int32} {t : Sg} {p : Nat} (hp : to.toNatClampNeg = p) (hn : f_X12_isName_1001 t = some (1, t)) (hf : f_X12_findHere base many t = some (r, t)) : f_X12_oldOne base many to t = ck (inr to 2880) (if r = -1 then bd (f_X12_fails 3 (pI t 1 p r)) (fun r t => ck (r = 0 ∨ r = 1) (some (r, t))) else bd (f_X12_ahead (pI t 1 p r)) (fun _ t => some (1, t))) := by
  unfold f_X12_oldOne
  rw [hn, bd_so]
  show (if (1 : Int32) = 0 then _ else bd (f_X12_findHere base many t) _) = _
  rw [if_neg i10, hf, bd_so]
  subst hp
  rw [q_eq]
theorem ch_n {x c j : Nat} {s t s1 t1 s2 t2 : Sg} (h : Ch x c j s t s1 t1) (g : ChN s1 t1 s2 t2) (h1 : 72 ≤ c) (h2 : c ≤ 77) : Ch x c j s t s2 t2 := ⟨by rw [g.1 c h1 h2, g.2]; exact h.1, fun c' h1 h2 k hk => by rw [g.1 c' h1 h2]; exact h.2.1 c' h1 h2 k hk, fun p hp => by rw [g.2]; exact h.2.2 p hp⟩
theorem t7_d {n : Nat} {dd e : Int} {x : Nat} {s t : Sg} (h : DyR n dd e x s t) (r : Int32) : TkRel n (pI s 7 7 r) t := tk_f (L1 := 2 ^ 187) (L2 := 0) h.1.1.1 (fr_x 187 rfl) fr_r (m_and rfl) rfl
theorem t7m_d {n : Nat} {dd e : Int} {x : Nat} {s t : Sg} (h : DyR n dd e x s t) (r r' : Int32) (p : Nat) : TkRel n (pI s 7 7 r) (pI t 1 p r') := tk_f (L1 := 0) (L2 := 2 ^ 1) (t7_d h r) fr_r (fr_x 1 rfl) rfl (m_and rfl)
theorem h7_d {n : Nat} {dd e : Int} {x : Nat} {s t : Sg} (h : DyR n dd e x s t) (v : Int32) : DyR n dd e x (pI s 7 7 v) t := dy_x h (t7_d h v) (fun c hc => pI_o _ _ _ _ _ (by omega)) rfl (fun c h1 h2 k _ => by rw [pI_o _ _ _ _ _ (by omega)]) rfl rfl ⟨rfl, rfl, rfl⟩ (fun p _ => rfl)
theorem m18_d {p : Nat} {v : Int32} {t : Sg} (h : t.1 0 18 = 0) : (pI t 1 p v).1 0 18 = 0 := by
  rw [pI_1, if_neg (fun z => by have := z.1; omega)]
  exact h
theorem rq_kM {α : Type} {oC : Option (α × Sg)} {B : Option (Int32 × Sg)} {R : α → Sg → Int32 → Sg → Prop} (h : RQ oC B R) : RQ oC (bd B (fun r t => ck (r = 0 ∨ r = 1) (some (r, t)))) R := rq_bM (P := fun r t => B = some (r, t)) (fun r t e => e) (fun r t e => rq_cM (fun _ => by rw [← e]; exact h))
theorem rq_kC {β : Type} {oM : Option (β × Sg)} {B : Option (Int32 × Sg)} {R : Int32 → Sg → β → Sg → Prop} (h : RQ B oM R) : RQ (bd B (fun r s => ck (r = 0 ∨ r = 1) (some (r, s)))) oM R := rq_bC (P := fun r t => B = some (r, t)) (fun r t e => e) (fun r t e => rq_cC (fun _ => by rw [← e]; exact h))
/-- the tail of a name's taking: store, pass on -/
theorem tail_d {n : Nat} {dd e : Int} {x cc j p : Nat} {s t : Sg} (h : DyR n dd e x s t) (hc : cc = 73 ∨ cc = 75) (hj : j < 6) (hp : p = 2030 + 6 * x + j) (a r : Int32) (ha : a.toInt = (x : Int)) : RQ (ck (inr a 60) (nmx (pI (pI s 7 7 r) cc a.toNatClampNeg ((pI s 7 7 r).1 7 7)) (fun s4 => bd (f_X7_advance s4) (fun _ s6 => some ((1 : Int32), s6))))) (bd (f_X12_ahead (pI t 1 p r)) (fun _ t => some ((1 : Int32), t))) (Og (fun s' t' => (DyR n dd e x s' t' ∧ Ch x cc j s t s' t') ∧ t'.1 1 p = r ∧ (s.1 7 2).toInt ≤ (s'.1 7 4).toInt)) := by
  subst hp
  refine rq_cC (fun _ => rq_nC (fun s4 e4 => ?_))
  rw [cl_h ha, q_eq] at e4
  obtain ⟨D, C⟩ := store_d h hc hj r
  rw [← e4] at D C
  refine rq_b2 (adv_s D.1.1.1) (fun _ s6 _ t6 w => rq_s (Or.inl ⟨rfl, rfl, ?_⟩))
  obtain ⟨D6, C6⟩ := dy_st w D
  refine ⟨⟨D6, ch_n C C6 (by omega) (by omega)⟩, by rw [C6.2, q_eq], ?_⟩
  have e2 : s4.1 7 2 = s.1 7 2 := by rw [e4, pI_1, if_neg (fun z => by have := z.1; omega), pI_1, if_neg (fun z => by have := z.2; omega)]
  rw [← e2]
  exact w.2.2.2
theorem old_d {n : Nat} {dd e : Int} {x q j : Nat} {s t : Sg} (h : DyR n dd e x s t) (hq : q < 4) (hj : j < 6) (a b base many : Int32) (ha : a.toInt = (x : Int)) (hb : b.toNatClampNeg = 2030 + 6 * x + j) (hbase : base.toInt = (offN q : Int)) (hm : many = t.1 1 q) : RQ (bd (f_X7_findName_25 (codN q) s) (fun r1 s2 => if r1 = 0 then some ((0 : Int32), s2) else ck (inr a 60) (nmx (pI s2 73 a.toNatClampNeg (s2.1 7 7)) (fun s4 => bd (f_X7_advance s4) (fun _ s6 => some ((1 : Int32), s6)))))) (f_X12_oldOne base many b t) (Og (fun s' t' => (DyR n dd e x s' t' ∧ Ch x 73 j s t s' t') ∧ (0 ≤ (t'.1 1 (2030 + 6 * x + j)).toInt ∧ (t'.1 1 (2030 + 6 * x + j)).toInt < (t.1 1 q).toInt) ∧ (s.1 7 2).toInt ≤ (s'.1 7 4).toInt)) := by
  have tk := h.1.1.1
  have h0 := h.1.1.2
  unfold f_X12_oldOne f_X7_findName_25
  refine rq_bM (name_r tk) (fun r t2 m => ?_)
  obtain ⟨et, m⟩ := m
  rw [et]
  rcases m with ⟨m1, m2⟩ | ⟨m1, m2⟩
  · rw [m1, if_neg i10]
    refine rc_i (fun _ => rc_b ?_) (fun z => absurd m2 z)
    refine rq_find h m2 hq base many hbase hm (fun v hv _ => ?_)
    refine rc_i (fun c => ?_) (fun c => ?_)
    · rw [q_eq] at c
      subst c
      refine rq_cM (fun _ => rq_iM (fun _ => ?_) (fun z => (z (by rw [q_eq])).elim))
      refine rc_b (rq_b2 (fails_r (t7m_d h _ _ _) (m18_d h0) 3 (by decide)) (fun r1 s1 r2 t1 g => ?_))
      obtain ⟨g1, g2, g3⟩ := g
      rw [g1, g2]
      exact rc_i (fun _ => rc_s (rq_iC (fun _ => rq_cM (fun _ => rq_s (Or.inr ⟨rfl, rfl, g3⟩))) (fun z => absurd rfl z))) (fun z => absurd rfl z)
    · rw [q_eq] at c
      refine rc_s (rq_iC (fun z => absurd z i10) (fun _ => ?_))
      refine rq_cM (fun _ => rq_iM (fun z => absurd (by rw [q_eq] at z; exact z) c) (fun _ => ?_))
      rw [hb]
      refine rq_w (tail_d h (Or.inl rfl) hj rfl a v ha) (fun r s' r' t' g => ?_)
      rcases g with ⟨g1, g2, g3, g4, g5⟩ | g
      · refine Or.inl ⟨g1, g2, g3, ?_, g5⟩
        rw [g4]
        exact hv.resolve_left c
      · exact Or.inr g
  · rw [m1, if_pos rfl]
    refine rc_i (fun z => absurd z m2) (fun _ => rc_b ?_)
    refine rq_b2 (fails_r tk h0 2 (by decide)) (fun r1 s1 r2 t1 g => ?_)
    obtain ⟨g1, g2, g3⟩ := g
    rw [g1, g2]
    exact rc_c (fun _ => rc_s (rq_iC (fun _ => rq_cM (fun _ => rq_s (Or.inr ⟨rfl, rfl, g3⟩))) (fun z => absurd rfl z)))
noncomputable def HsC (cc : Nat) (a : Int32) (s : Sg) : Option (Int32 × Sg) := bd (f_X7_findName_25 100 s) (fun r1 s2 => if r1 = 0 then some ((0 : Int32), s2) else bd (f_X4_isGone (s2.1 7 7) s2) (fun r3 s4 => if r3 = 0 then ck (inr a 60) (nmx (pI s4 cc a.toNatClampNeg (s4.1 7 7)) (fun s6 => bd (f_X7_advance s6) (fun _ s8 => some ((1 : Int32), s8)))) else bd (f_X7_wrong 5 s4) (fun r9 s10 => ck (r9 = 0 ∨ r9 = 1) (some (r9, s10)))))
theorem house_d {n : Nat} {dd e : Int} {x cc : Nat} {s t : Sg} (h : DyR n dd e x s t) (hc : cc = 73 ∨ cc = 75) (a b : Int32) (ha : a.toInt = (x : Int)) (hb : b.toNatClampNeg = 2030 + 6 * x + 1) : RQ (HsC cc a s) (f_X12_stepTo b t) (Og (fun s' t' => (DyR n dd e x s' t' ∧ Ch x cc 1 s t s' t') ∧ ((0 ≤ (t'.1 1 (2030 + 6 * x + 1)).toInt ∧ (t'.1 1 (2030 + 6 * x + 1)).toInt < (t.1 1 0).toInt) ∧ ¬ bt (t.1 1 9) (t'.1 1 (2030 + 6 * x + 1)).toInt.toNat = true) ∧ (s.1 7 2).toInt ≤ (s'.1 7 4).toInt)) := by
  have tk := h.1.1.1
  have h0 := h.1.1.2
  have b8 := h.1.2.1.2.1
  unfold HsC f_X12_stepTo f_X7_findName_25
  refine rq_bM (pq_and (name_r tk) (show PQ _ (fun r t' => f_X12_isName_1001 t = some (r, t')) from fun r t' e => e)) (fun r t2 m => ?_)
  obtain ⟨⟨et, m⟩, en⟩ := m
  rw [et] at en ⊢
  rcases m with ⟨m1, m2⟩ | ⟨m1, m2⟩
  · rw [m1] at en ⊢
    rw [if_neg i10]
    refine rc_i (fun _ => rc_b ?_) (fun z => absurd m2 z)
    refine rq_find (q := 0) h m2 (by decide) 0 _ rfl rfl (fun v hv ef => ?_)
    show RQ _ (f_X12_stepTo_b24 b v t) _
    unfold f_X12_stepTo_b24
    refine rc_i (fun c => ?_) (fun c => ?_)
    · rw [q_eq] at c
      subst c
      refine rq_iM (fun _ => ?_) (fun z => absurd rfl z)
      rw [oldO hb en ef]
      refine rm_c (fun _ => rm_i (fun _ => ?_) (fun z => absurd rfl z))
      refine rc_b (rm_b (rq_b2 (fails_r (t7m_d h _ _ _) (m18_d h0) 3 (by decide)) (fun r1 s1 r2 t1 g => ?_)))
      obtain ⟨g1, g2, g3⟩ := g
      rw [g1, g2]
      exact rc_i (fun _ => rc_s (rq_iC (fun _ => rm_c (fun _ => rm_s (rq_cM (fun _ => rq_s (Or.inr ⟨rfl, rfl, g3⟩))))) (fun z => absurd rfl z))) (fun z => absurd rfl z)
    · rw [q_eq] at c
      have hv' := hv.resolve_left c
      have vt : v.toInt = (v.toInt.toNat : Int) := by omega
      have v8 : v.toInt.toNat < 32 := by omega
      refine rc_s (rq_iC (fun z => absurd z i10) (fun _ => rq_iM (fun z => absurd z c) (fun _ => ?_)))
      rw [q_eq]
      refine rq_f (gone_c (h7_d h v).1.2.1 vt v8) (gone_m vt v8 t) Iff.rfl (fun y => ?_) (fun y => ?_)
      · refine rq_iC (fun z => absurd z i10) (fun _ => rq_iM (fun z => absurd z i10) (fun _ => ?_))
        exact og_f (t7_d h v) h0 5 (by decide)
      · refine rq_iC (fun _ => rq_iM (fun _ => ?_) (fun z => absurd rfl z)) (fun z => absurd rfl z)
        rw [oldO hb en ef]
        refine rm_c (fun _ => rm_i (fun z => absurd z c) (fun _ => rq_kM ?_))
        refine rq_w (tail_d h hc (by decide) rfl a v ha) (fun r s' r' t' g => ?_)
        rcases g with ⟨g1, g2, g3, g4, g5⟩ | g
        · refine Or.inl ⟨g1, g2, g3, ?_, g5⟩
          rw [g4]
          exact ⟨hv', y⟩
        · exact Or.inr g
  · rw [m1] at en ⊢
    rw [if_pos rfl]
    unfold f_X12_stepTo_b24
    refine rq_iM (fun _ => ?_) (fun z => absurd rfl z)
    unfold f_X12_oldOne
    refine rm_b ?_
    rw [en]
    refine rm_s (rm_i (fun _ => rm_b ?_) (fun z => absurd rfl z))
    refine rc_i (fun z => absurd z m2) (fun _ => rc_b (rq_b2 (fails_r tk h0 2 (by decide)) (fun r1 s1 r2 t1 g => ?_)))
    obtain ⟨g1, g2, g3⟩ := g
    rw [g1, g2]
    exact rc_c (fun _ => rc_s (rq_iC (fun _ => rm_c (fun _ => rm_s (rq_cM (fun _ => rq_s (Or.inr ⟨rfl, rfl, g3⟩))))) (fun z => absurd rfl z)))
/-! days: the test of an IF, a row's order, a step -/
theorem do_4 (b : Int32) (t : Sg) : f_X12_dayOrder 4 b t = bd (f_X12_number (b + 1) 0 16 t) (fun r t => ck (r = 0 ∨ r = 1) (some (r, t))) := by
  unfold f_X12_dayOrder
  rw [if_pos rfl]
theorem do_19 (b : Int32) (t : Sg) : f_X12_dayOrder 19 b t = bd (f_X12_stepTo (b + 1) t) (fun r t => if r = 0 then some (0, t) else bd (f_X12_number (b + 2) 1 999 t) (fun r t => if r = 0 then some (0, t) else some (1, t))) := by
  unfold f_X12_dayOrder
  rw [if_neg (show ¬ (19 : Int32) = 4 by decide), if_neg (show ¬ (19 : Int32) = 5 by decide), if_neg (show ¬ (19 : Int32) = 6 by decide), if_neg (show ¬ (19 : Int32) = 7 by decide), if_neg (show ¬ (19 : Int32) = 8 by decide), if_neg (show ¬ (19 : Int32) = 9 by decide), if_neg (show ¬ (19 : Int32) = 10 by decide), if_neg (show ¬ (19 : Int32) = 11 by decide), if_neg (show ¬ (19 : Int32) = 12 by decide), if_neg (show ¬ (19 : Int32) = 13 by decide), if_neg (show ¬ (19 : Int32) = 14 by decide), if_neg (show ¬ (19 : Int32) = 15 by decide), if_neg (show ¬ (19 : Int32) = 16 by decide), if_neg (show ¬ (19 : Int32) = 17 by decide), if_neg (show ¬ (19 : Int32) = 18 by decide), if_pos rfl]
theorem do_20 (b : Int32) (t : Sg) : f_X12_dayOrder 20 b t = bd (f_X12_oldOne 20 (t.1 1 3) (b + 3) t) (fun r t => if r = 0 then some (0, t) else bd (f_X12_number (b + 2) 1 999 t) (fun r t => if r = 0 then some (0, t) else bd (f_X12_wantWord_1001 12 t) (fun r t => if r = 0 then some (0, t) else bd (f_X12_stepTo (b + 1) t) (fun r t => if r = 0 then some (0, t) else some (1, t))))) := by
  unfold f_X12_dayOrder
  rw [if_neg (show ¬ (20 : Int32) = 4 by decide), if_neg (show ¬ (20 : Int32) = 5 by decide), if_neg (show ¬ (20 : Int32) = 6 by decide), if_neg (show ¬ (20 : Int32) = 7 by decide), if_neg (show ¬ (20 : Int32) = 8 by decide), if_neg (show ¬ (20 : Int32) = 9 by decide), if_neg (show ¬ (20 : Int32) = 10 by decide), if_neg (show ¬ (20 : Int32) = 11 by decide), if_neg (show ¬ (20 : Int32) = 12 by decide), if_neg (show ¬ (20 : Int32) = 13 by decide), if_neg (show ¬ (20 : Int32) = 14 by decide), if_neg (show ¬ (20 : Int32) = 15 by decide), if_neg (show ¬ (20 : Int32) = 16 by decide), if_neg (show ¬ (20 : Int32) = 17 by decide), if_neg (show ¬ (20 : Int32) = 18 by decide), if_neg (show ¬ (20 : Int32) = 19 by decide), if_pos rfl]
theorem do_21 (b : Int32) (t : Sg) : f_X12_dayOrder 21 b t = bd (f_X12_stepTo (b + 1) t) (fun r t => ck (r = 0 ∨ r = 1) (some (r, t))) := by
  unfold f_X12_dayOrder
  rw [if_neg (show ¬ (21 : Int32) = 4 by decide), if_neg (show ¬ (21 : Int32) = 5 by decide), if_neg (show ¬ (21 : Int32) = 6 by decide), if_neg (show ¬ (21 : Int32) = 7 by decide), if_neg (show ¬ (21 : Int32) = 8 by decide), if_neg (show ¬ (21 : Int32) = 9 by decide), if_neg (show ¬ (21 : Int32) = 10 by decide), if_neg (show ¬ (21 : Int32) = 11 by decide), if_neg (show ¬ (21 : Int32) = 12 by decide), if_neg (show ¬ (21 : Int32) = 13 by decide), if_neg (show ¬ (21 : Int32) = 14 by decide), if_neg (show ¬ (21 : Int32) = 15 by decide), if_neg (show ¬ (21 : Int32) = 16 by decide), if_neg (show ¬ (21 : Int32) = 17 by decide), if_neg (show ¬ (21 : Int32) = 18 by decide), if_neg (show ¬ (21 : Int32) = 19 by decide), if_neg (show ¬ (21 : Int32) = 20 by decide), if_pos rfl]
theorem do_22 (b : Int32) (t : Sg) : f_X12_dayOrder 22 b t = bd (f_X12_number (b + 1) 0 99 t) (fun r t => ck (r = 0 ∨ r = 1) (some (r, t))) := by
  unfold f_X12_dayOrder
  rw [if_neg (show ¬ (22 : Int32) = 4 by decide), if_neg (show ¬ (22 : Int32) = 5 by decide), if_neg (show ¬ (22 : Int32) = 6 by decide), if_neg (show ¬ (22 : Int32) = 7 by decide), if_neg (show ¬ (22 : Int32) = 8 by decide), if_neg (show ¬ (22 : Int32) = 9 by decide), if_neg (show ¬ (22 : Int32) = 10 by decide), if_neg (show ¬ (22 : Int32) = 11 by decide), if_neg (show ¬ (22 : Int32) = 12 by decide), if_neg (show ¬ (22 : Int32) = 13 by decide), if_neg (show ¬ (22 : Int32) = 14 by decide), if_neg (show ¬ (22 : Int32) = 15 by decide), if_neg (show ¬ (22 : Int32) = 16 by decide), if_neg (show ¬ (22 : Int32) = 17 by decide), if_neg (show ¬ (22 : Int32) = 18 by decide), if_neg (show ¬ (22 : Int32) = 19 by decide), if_neg (show ¬ (22 : Int32) = 20 by decide), if_neg (show ¬ (22 : Int32) = 21 by decide), if_pos rfl]
theorem do_23 (b : Int32) (t : Sg) : f_X12_dayOrder 23 b t = some (1, t) := by
  unfold f_X12_dayOrder
  rw [if_neg (show ¬ (23 : Int32) = 4 by decide), if_neg (show ¬ (23 : Int32) = 5 by decide), if_neg (show ¬ (23 : Int32) = 6 by decide), if_neg (show ¬ (23 : Int32) = 7 by decide), if_neg (show ¬ (23 : Int32) = 8 by decide), if_neg (show ¬ (23 : Int32) = 9 by decide), if_neg (show ¬ (23 : Int32) = 10 by decide), if_neg (show ¬ (23 : Int32) = 11 by decide), if_neg (show ¬ (23 : Int32) = 12 by decide), if_neg (show ¬ (23 : Int32) = 13 by decide), if_neg (show ¬ (23 : Int32) = 14 by decide), if_neg (show ¬ (23 : Int32) = 15 by decide), if_neg (show ¬ (23 : Int32) = 16 by decide), if_neg (show ¬ (23 : Int32) = 17 by decide), if_neg (show ¬ (23 : Int32) = 18 by decide), if_neg (show ¬ (23 : Int32) = 19 by decide), if_neg (show ¬ (23 : Int32) = 20 by decide), if_neg (show ¬ (23 : Int32) = 21 by decide), if_neg (show ¬ (23 : Int32) = 22 by decide), if_pos rfl]
theorem do_24 (b : Int32) (t : Sg) : f_X12_dayOrder 24 b t = bd (f_X12_test b t) (fun r t => ck (r = 0 ∨ r = 1) (some (r, t))) := by
  unfold f_X12_dayOrder
  rw [if_neg (show ¬ (24 : Int32) = 4 by decide), if_neg (show ¬ (24 : Int32) = 5 by decide), if_neg (show ¬ (24 : Int32) = 6 by decide), if_neg (show ¬ (24 : Int32) = 7 by decide), if_neg (show ¬ (24 : Int32) = 8 by decide), if_neg (show ¬ (24 : Int32) = 9 by decide), if_neg (show ¬ (24 : Int32) = 10 by decide), if_neg (show ¬ (24 : Int32) = 11 by decide), if_neg (show ¬ (24 : Int32) = 12 by decide), if_neg (show ¬ (24 : Int32) = 13 by decide), if_neg (show ¬ (24 : Int32) = 14 by decide), if_neg (show ¬ (24 : Int32) = 15 by decide), if_neg (show ¬ (24 : Int32) = 16 by decide), if_neg (show ¬ (24 : Int32) = 17 by decide), if_neg (show ¬ (24 : Int32) = 18 by decide), if_neg (show ¬ (24 : Int32) = 19 by decide), if_neg (show ¬ (24 : Int32) = 20 by decide), if_neg (show ¬ (24 : Int32) = 21 by decide), if_neg (show ¬ (24 : Int32) = 22 by decide), if_neg (show ¬ (24 : Int32) = 23 by decide), if_pos rfl]
theorem do_25 (b : Int32) (t : Sg) : f_X12_dayOrder 25 b t = bd (f_X12_number (b + 1) 1 99 t) (fun r t => ck (r = 0 ∨ r = 1) (some (r, t))) := by
  unfold f_X12_dayOrder
  rw [if_neg (show ¬ (25 : Int32) = 4 by decide), if_neg (show ¬ (25 : Int32) = 5 by decide), if_neg (show ¬ (25 : Int32) = 6 by decide), if_neg (show ¬ (25 : Int32) = 7 by decide), if_neg (show ¬ (25 : Int32) = 8 by decide), if_neg (show ¬ (25 : Int32) = 9 by decide), if_neg (show ¬ (25 : Int32) = 10 by decide), if_neg (show ¬ (25 : Int32) = 11 by decide), if_neg (show ¬ (25 : Int32) = 12 by decide), if_neg (show ¬ (25 : Int32) = 13 by decide), if_neg (show ¬ (25 : Int32) = 14 by decide), if_neg (show ¬ (25 : Int32) = 15 by decide), if_neg (show ¬ (25 : Int32) = 16 by decide), if_neg (show ¬ (25 : Int32) = 17 by decide), if_neg (show ¬ (25 : Int32) = 18 by decide), if_neg (show ¬ (25 : Int32) = 19 by decide), if_neg (show ¬ (25 : Int32) = 20 by decide), if_neg (show ¬ (25 : Int32) = 21 by decide), if_neg (show ¬ (25 : Int32) = 22 by decide), if_neg (show ¬ (25 : Int32) = 23 by decide), if_neg (show ¬ (25 : Int32) = 24 by decide), if_pos rfl]
theorem do_26 (b : Int32) (t : Sg) : f_X12_dayOrder 26 b t = some (1, t) := by
  unfold f_X12_dayOrder
  rw [if_neg (show ¬ (26 : Int32) = 4 by decide), if_neg (show ¬ (26 : Int32) = 5 by decide), if_neg (show ¬ (26 : Int32) = 6 by decide), if_neg (show ¬ (26 : Int32) = 7 by decide), if_neg (show ¬ (26 : Int32) = 8 by decide), if_neg (show ¬ (26 : Int32) = 9 by decide), if_neg (show ¬ (26 : Int32) = 10 by decide), if_neg (show ¬ (26 : Int32) = 11 by decide), if_neg (show ¬ (26 : Int32) = 12 by decide), if_neg (show ¬ (26 : Int32) = 13 by decide), if_neg (show ¬ (26 : Int32) = 14 by decide), if_neg (show ¬ (26 : Int32) = 15 by decide), if_neg (show ¬ (26 : Int32) = 16 by decide), if_neg (show ¬ (26 : Int32) = 17 by decide), if_neg (show ¬ (26 : Int32) = 18 by decide), if_neg (show ¬ (26 : Int32) = 19 by decide), if_neg (show ¬ (26 : Int32) = 20 by decide), if_neg (show ¬ (26 : Int32) = 21 by decide), if_neg (show ¬ (26 : Int32) = 22 by decide), if_neg (show ¬ (26 : Int32) = 23 by decide), if_neg (show ¬ (26 : Int32) = 24 by decide), if_neg (show ¬ (26 : Int32) = 25 by decide)]
theorem do_27 (b : Int32) (t : Sg) : f_X12_dayOrder 27 b t = some (1, t) := by
  unfold f_X12_dayOrder
  rw [if_neg (show ¬ (27 : Int32) = 4 by decide), if_neg (show ¬ (27 : Int32) = 5 by decide), if_neg (show ¬ (27 : Int32) = 6 by decide), if_neg (show ¬ (27 : Int32) = 7 by decide), if_neg (show ¬ (27 : Int32) = 8 by decide), if_neg (show ¬ (27 : Int32) = 9 by decide), if_neg (show ¬ (27 : Int32) = 10 by decide), if_neg (show ¬ (27 : Int32) = 11 by decide), if_neg (show ¬ (27 : Int32) = 12 by decide), if_neg (show ¬ (27 : Int32) = 13 by decide), if_neg (show ¬ (27 : Int32) = 14 by decide), if_neg (show ¬ (27 : Int32) = 15 by decide), if_neg (show ¬ (27 : Int32) = 16 by decide), if_neg (show ¬ (27 : Int32) = 17 by decide), if_neg (show ¬ (27 : Int32) = 18 by decide), if_neg (show ¬ (27 : Int32) = 19 by decide), if_neg (show ¬ (27 : Int32) = 20 by decide), if_neg (show ¬ (27 : Int32) = 21 by decide), if_neg (show ¬ (27 : Int32) = 22 by decide), if_neg (show ¬ (27 : Int32) = 23 by decide), if_neg (show ¬ (27 : Int32) = 24 by decide), if_neg (show ¬ (27 : Int32) = 25 by decide)]
noncomputable def OrC (w a : Int32) (s : Sg) : Option (Int32 × Sg) := if w = 116 then bd (f_X1_takeNumber a 0 16 s) (fun r s => f_X1_takeStep_b249 r s) else if w = 117 then f_X1_takeStep_b249 1 s else if w = 118 then f_X1_takeStep_b249 1 s else if w = 119 then bd (f_X1_takeGrocer a s) (fun r s => if r = 0 then f_X1_takeStep_b183 s else bd (f_X1_takeNumber a 1 999 s) (fun r s => if r = 0 then f_X1_takeStep_b183 s else bd (f_X7_pass 110 s) (fun r s => if r = 0 then f_X1_takeStep_b183 s else bd (f_X1_takeHouse_75 a s) (fun r s => if r = 0 then f_X1_takeStep_b183 s else f_X1_takeStep_b184 1 s)))) else if w = 120 then bd (f_X1_takeHouse_73 a s) (fun r s => if r = 0 then f_X1_takeStep_b127 s else bd (f_X1_takeNumber a 1 999 s) (fun r s => if r = 0 then f_X1_takeStep_b127 s else f_X1_takeStep_b128 1 s)) else if w = 121 then bd (f_X1_takeHouse_73 a s) (fun r s => f_X1_takeStep_b249 r s) else if w = 122 then bd (f_X1_takeNumber a 0 99 s) (fun r s => f_X1_takeStep_b249 r s) else if w = 123 then f_X1_takeStep_b249 1 s else if w = 124 then bd (f_X1_takeTest a s) (fun r s => f_X1_takeStep_b249 r s) else if w = 125 then f_X1_takeStep_b249 1 s else if w = 126 then f_X1_takeStep_b249 1 s else if w = 127 then f_X1_takeStep_b249 1 s else if w = 128 then bd (f_X1_takeNumber a 1 99 s) (fun r s => f_X1_takeStep_b249 r s) else f_X1_takeStep_b249 1 s
theorem ts_e (s : Sg) : f_X1_takeStep s = bd (f_X1_beginStep s) (fun r s2 => if r = 0 then some (0, s2) else ck (inr (s.1 54 7) 60) (OrC (s2.1 72 ((s.1 54 7).toNatClampNeg)) (s.1 54 7) s2)) := rfl
theorem oc_116 (a : Int32) (s : Sg) : OrC 116 a s = bd (f_X1_takeNumber a 0 16 s) (fun r s => f_X1_takeStep_b249 r s) := by
  unfold OrC
  rw [if_pos rfl]
theorem oc_119 (a : Int32) (s : Sg) : OrC 119 a s = bd (f_X1_takeGrocer a s) (fun r s => if r = 0 then f_X1_takeStep_b183 s else bd (f_X1_takeNumber a 1 999 s) (fun r s => if r = 0 then f_X1_takeStep_b183 s else bd (f_X7_pass 110 s) (fun r s => if r = 0 then f_X1_takeStep_b183 s else bd (f_X1_takeHouse_75 a s) (fun r s => if r = 0 then f_X1_takeStep_b183 s else f_X1_takeStep_b184 1 s)))) := by
  unfold OrC
  rw [if_neg (show ¬ (119 : Int32) = 116 by decide), if_neg (show ¬ (119 : Int32) = 117 by decide), if_neg (show ¬ (119 : Int32) = 118 by decide), if_pos rfl]
theorem oc_120 (a : Int32) (s : Sg) : OrC 120 a s = bd (f_X1_takeHouse_73 a s) (fun r s => if r = 0 then f_X1_takeStep_b127 s else bd (f_X1_takeNumber a 1 999 s) (fun r s => if r = 0 then f_X1_takeStep_b127 s else f_X1_takeStep_b128 1 s)) := by
  unfold OrC
  rw [if_neg (show ¬ (120 : Int32) = 116 by decide), if_neg (show ¬ (120 : Int32) = 117 by decide), if_neg (show ¬ (120 : Int32) = 118 by decide), if_neg (show ¬ (120 : Int32) = 119 by decide), if_pos rfl]
theorem oc_121 (a : Int32) (s : Sg) : OrC 121 a s = bd (f_X1_takeHouse_73 a s) (fun r s => f_X1_takeStep_b249 r s) := by
  unfold OrC
  rw [if_neg (show ¬ (121 : Int32) = 116 by decide), if_neg (show ¬ (121 : Int32) = 117 by decide), if_neg (show ¬ (121 : Int32) = 118 by decide), if_neg (show ¬ (121 : Int32) = 119 by decide), if_neg (show ¬ (121 : Int32) = 120 by decide), if_pos rfl]
theorem oc_122 (a : Int32) (s : Sg) : OrC 122 a s = bd (f_X1_takeNumber a 0 99 s) (fun r s => f_X1_takeStep_b249 r s) := by
  unfold OrC
  rw [if_neg (show ¬ (122 : Int32) = 116 by decide), if_neg (show ¬ (122 : Int32) = 117 by decide), if_neg (show ¬ (122 : Int32) = 118 by decide), if_neg (show ¬ (122 : Int32) = 119 by decide), if_neg (show ¬ (122 : Int32) = 120 by decide), if_neg (show ¬ (122 : Int32) = 121 by decide), if_pos rfl]
theorem oc_123 (a : Int32) (s : Sg) : OrC 123 a s = f_X1_takeStep_b249 1 s := by
  unfold OrC
  rw [if_neg (show ¬ (123 : Int32) = 116 by decide), if_neg (show ¬ (123 : Int32) = 117 by decide), if_neg (show ¬ (123 : Int32) = 118 by decide), if_neg (show ¬ (123 : Int32) = 119 by decide), if_neg (show ¬ (123 : Int32) = 120 by decide), if_neg (show ¬ (123 : Int32) = 121 by decide), if_neg (show ¬ (123 : Int32) = 122 by decide), if_pos rfl]
theorem oc_124 (a : Int32) (s : Sg) : OrC 124 a s = bd (f_X1_takeTest a s) (fun r s => f_X1_takeStep_b249 r s) := by
  unfold OrC
  rw [if_neg (show ¬ (124 : Int32) = 116 by decide), if_neg (show ¬ (124 : Int32) = 117 by decide), if_neg (show ¬ (124 : Int32) = 118 by decide), if_neg (show ¬ (124 : Int32) = 119 by decide), if_neg (show ¬ (124 : Int32) = 120 by decide), if_neg (show ¬ (124 : Int32) = 121 by decide), if_neg (show ¬ (124 : Int32) = 122 by decide), if_neg (show ¬ (124 : Int32) = 123 by decide), if_pos rfl]
theorem oc_128 (a : Int32) (s : Sg) : OrC 128 a s = bd (f_X1_takeNumber a 1 99 s) (fun r s => f_X1_takeStep_b249 r s) := by
  unfold OrC
  rw [if_neg (show ¬ (128 : Int32) = 116 by decide), if_neg (show ¬ (128 : Int32) = 117 by decide), if_neg (show ¬ (128 : Int32) = 118 by decide), if_neg (show ¬ (128 : Int32) = 119 by decide), if_neg (show ¬ (128 : Int32) = 120 by decide), if_neg (show ¬ (128 : Int32) = 121 by decide), if_neg (show ¬ (128 : Int32) = 122 by decide), if_neg (show ¬ (128 : Int32) = 123 by decide), if_neg (show ¬ (128 : Int32) = 124 by decide), if_neg (show ¬ (128 : Int32) = 125 by decide), if_neg (show ¬ (128 : Int32) = 126 by decide), if_neg (show ¬ (128 : Int32) = 127 by decide), if_pos rfl]
theorem oc_130 (a : Int32) (s : Sg) : OrC 130 a s = f_X1_takeStep_b249 1 s := by
  unfold OrC
  rw [if_neg (show ¬ (130 : Int32) = 116 by decide), if_neg (show ¬ (130 : Int32) = 117 by decide), if_neg (show ¬ (130 : Int32) = 118 by decide), if_neg (show ¬ (130 : Int32) = 119 by decide), if_neg (show ¬ (130 : Int32) = 120 by decide), if_neg (show ¬ (130 : Int32) = 121 by decide), if_neg (show ¬ (130 : Int32) = 122 by decide), if_neg (show ¬ (130 : Int32) = 123 by decide), if_neg (show ¬ (130 : Int32) = 124 by decide), if_neg (show ¬ (130 : Int32) = 125 by decide), if_neg (show ¬ (130 : Int32) = 126 by decide), if_neg (show ¬ (130 : Int32) = 127 by decide), if_neg (show ¬ (130 : Int32) = 128 by decide)]
theorem b183_e (s : Sg) : f_X1_takeStep_b183 s = some (0, s) := rfl
theorem b127_e (s : Sg) : f_X1_takeStep_b127 s = some (0, s) := rfl
theorem kw_t {k r : Int32} (h : KwS k r) : (k = 125 ∧ r = 28) ∨ (k = 126 ∧ r = 29) ∨ (k = 127 ∧ r = 30) ∨ ((¬ k = 125 ∧ ¬ k = 126 ∧ ¬ k = 127) ∧ ¬ 28 ≤ r) := by
  have ei : ∀ {a b : Int32}, a.toInt = b.toInt → a = b := fun e => Int32.toInt_inj.mp e
  have c5 : (125 : Int32).toInt = 125 := rfl
  have c6 : (126 : Int32).toInt = 126 := rfl
  have c7 : (127 : Int32).toInt = 127 := rfl
  have c8 : (28 : Int32).toInt = 28 := rfl
  rcases h with ⟨i, hi, hk, hr⟩ | ⟨hk, hr⟩
  · have d : ∀ i, i < 31 → (i = 25 ∧ permK.getD i 0 = 28) ∨ (i = 26 ∧ permK.getD i 0 = 29) ∨ (i = 27 ∧ permK.getD i 0 = 30) ∨ ((¬ i = 25 ∧ ¬ i = 26 ∧ ¬ i = 27) ∧ permK.getD i 0 < 28) := by decide +kernel
    rcases d i hi with ⟨z, z'⟩ | ⟨z, z'⟩ | ⟨z, z'⟩ | ⟨z, z'⟩
    · exact Or.inl ⟨ei (by rw [hk, z]; rfl), ei (by rw [hr, z']; rfl)⟩
    · exact Or.inr (Or.inl ⟨ei (by rw [hk, z]; rfl), ei (by rw [hr, z']; rfl)⟩)
    · exact Or.inr (Or.inr (Or.inl ⟨ei (by rw [hk, z]; rfl), ei (by rw [hr, z']; rfl)⟩))
    · refine Or.inr (Or.inr (Or.inr ⟨⟨fun y => ?_, fun y => ?_, fun y => ?_⟩, fun y => ?_⟩))
      · rw [y] at hk; omega
      · rw [y] at hk; omega
      · rw [y] at hk; omega
      · have := Int32.le_iff_toInt_le.mp y
        omega
  · refine Or.inr (Or.inr (Or.inr ⟨⟨fun y => ?_, fun y => ?_, fun y => ?_⟩, fun y => ?_⟩))
    · rw [y] at hk; omega
    · rw [y] at hk; omega
    · rw [y] at hk; omega
    · rw [hr] at y
      exact absurd y (by decide)
theorem vd_h {m0 m1 m2 m3 c0 c1 c3 g : Int32} (y : m0 = 21 ∨ m0 = 2430) (h : (0 ≤ m1.toInt ∧ m1.toInt < c0.toInt) ∧ ¬ bt g m1.toInt.toNat = true) : VdA m0 m1 m2 m3 c0 c1 c3 g := by
  rcases y with y | y <;> subst y <;> exact ⟨fun _ => h, fun z => absurd z (by decide), fun z => absurd z (by decide), fun z => absurd z (by decide), fun z => absurd z (by decide), fun z => absurd z (by decide), fun z => absurd z (by decide)⟩
theorem vd_q {m0 m1 m2 m3 c0 c1 c3 g : Int32} (y : m0 = 2428 ∨ m0 = 2429) (h : 0 ≤ m1.toInt ∧ m1.toInt < c1.toInt) : VdA m0 m1 m2 m3 c0 c1 c3 g := by
  rcases y with y | y <;> subst y <;> exact ⟨fun z => absurd z (by decide), fun z => absurd z (by decide), fun _ => h, fun z => absurd z (by decide), fun z => absurd z (by decide), fun z => absurd z (by decide), fun z => absurd z (by decide)⟩
theorem vd_0 {m0 m1 m2 m3 c0 c1 c3 g : Int32} (y : m0 = 23 ∨ m0 = 26 ∨ m0 = 27) : VdA m0 m1 m2 m3 c0 c1 c3 g := by
  rcases y with y | y | y <;> subst y <;> exact ⟨fun z => absurd z (by decide), fun z => absurd z (by decide), fun z => absurd z (by decide), fun z => absurd z (by decide), fun z => absurd z (by decide), fun z => absurd z (by decide), fun z => absurd z (by decide)⟩
theorem vd_25 {m1 m2 m3 c0 c1 c3 g : Int32} (h : 1 ≤ m1.toInt ∧ m1.toInt ≤ 99) : VdA 25 m1 m2 m3 c0 c1 c3 g := ⟨fun z => absurd z (by decide), fun z => absurd z (by decide), fun z => absurd z (by decide), fun _ => h, fun z => absurd z (by decide), fun z => absurd z (by decide), fun z => absurd z (by decide)⟩
theorem vd_4 {m1 m2 m3 c0 c1 c3 g : Int32} (h : 0 ≤ m1.toInt ∧ m1.toInt ≤ 16) : VdA 4 m1 m2 m3 c0 c1 c3 g := ⟨fun z => absurd z (by decide), fun z => absurd z (by decide), fun z => absurd z (by decide), fun z => absurd z (by decide), fun z => absurd z (by decide), fun _ => h, fun z => absurd z (by decide)⟩
theorem vd_22 {m1 m2 m3 c0 c1 c3 g : Int32} (h : 0 ≤ m1.toInt ∧ m1.toInt ≤ 99) : VdA 22 m1 m2 m3 c0 c1 c3 g := ⟨fun z => absurd z (by decide), fun z => absurd z (by decide), fun z => absurd z (by decide), fun z => absurd z (by decide), fun z => absurd z (by decide), fun z => absurd z (by decide), fun _ => h⟩
theorem vd_19 {m1 m2 m3 c0 c1 c3 g : Int32} (h : (0 ≤ m1.toInt ∧ m1.toInt < c0.toInt) ∧ ¬ bt g m1.toInt.toNat = true) (k : 1 ≤ m2.toInt ∧ m2.toInt ≤ 999) : VdA 19 m1 m2 m3 c0 c1 c3 g := ⟨fun _ => h, fun z => absurd z (by decide), fun z => absurd z (by decide), fun z => absurd z (by decide), fun _ => k, fun z => absurd z (by decide), fun z => absurd z (by decide)⟩
theorem vd_20 {m1 m2 m3 c0 c1 c3 g : Int32} (h : (0 ≤ m1.toInt ∧ m1.toInt < c0.toInt) ∧ ¬ bt g m1.toInt.toNat = true) (k : 1 ≤ m2.toInt ∧ m2.toInt ≤ 999) (l : 0 ≤ m3.toInt ∧ m3.toInt < c3.toInt) : VdA 20 m1 m2 m3 c0 c1 c3 g := ⟨fun _ => h, fun _ => l, fun z => absurd z (by decide), fun z => absurd z (by decide), fun _ => k, fun z => absurd z (by decide), fun z => absurd z (by decide)⟩
/-- a row's cells: the test's word, its sign -/
theorem sto_d {n : Nat} {dd e : Int} {x j : Nat} {s t : Sg} (h : DyR n dd e x s t) (hj : j < 6) (v w : Int32) : DyR n dd e x (pI s 76 x v) (pI t 1 (2030 + 6 * x + j) w) := by
  refine dy_x h ?_ (fun c hc => pI_o _ _ _ _ _ (by omega)) rfl (fun c h1 h2 k hk => ?_) rfl (pI_o _ _ _ _ _ (by decide)) ⟨q_nc rfl, q_nc rfl, q_nc rfl⟩ (fun p hp => ?_)
  · exact tk_f (L1 := 2 ^ 76) (L2 := 2 ^ 1) h.1.1.1 (fr_x 76 rfl) (fr_x 1 rfl) (m_and rfl) (m_and rfl)
  · rw [pI_1, if_neg (fun z => by have := z.2; omega)]
  · rw [pI_1, if_neg (fun z => by have := z.2; omega)]
theorem stm_d {n : Nat} {dd e : Int} {x j : Nat} {s t : Sg} (h : DyR n dd e x s t) (hj : j < 6) (w : Int32) : DyR n dd e x s (pI t 1 (2030 + 6 * x + j) w) := by
  refine dy_x h ?_ (fun c hc => rfl) rfl (fun c h1 h2 k hk => rfl) rfl (pI_o _ _ _ _ _ (by decide)) ⟨q_nc rfl, q_nc rfl, q_nc rfl⟩ (fun p hp => ?_)
  · exact tk_f (L1 := 0) (L2 := 2 ^ 1) h.1.1.1 fr_r (fr_x 1 rfl) rfl (m_and rfl)
  · rw [pI_1, if_neg (fun z => by have := z.2; omega)]
theorem stc_d {n : Nat} {dd e : Int} {x : Nat} {s t : Sg} (h : DyR n dd e x s t) (v : Int32) : DyR n dd e x (pI s 76 x v) t := by
  refine dy_x h ?_ (fun c hc => pI_o _ _ _ _ _ (by omega)) rfl (fun c h1 h2 k hk => ?_) rfl rfl ⟨rfl, rfl, rfl⟩ (fun p hp => rfl)
  · exact tk_f (L1 := 2 ^ 76) (L2 := 0) h.1.1.1 (fr_x 76 rfl) fr_r (m_and rfl) rfl
  · rw [pI_1, if_neg (fun z => by have := z.2; omega)]
theorem rq_idM {α : Type} {oC : Option (α × Sg)} {B : Option (Int32 × Sg)} {R : α → Sg → Int32 → Sg → Prop} (h : RQ oC (bd B (fun r t => some (r, t))) R) : RQ oC B R := fun r s' r' t' e1 e2 => h r s' r' t' e1 (by rw [e2]; rfl)
/-- a row's order is read: the row is there -/
def OrP (n : Nat) (dd e : Int) (x : Nat) (s s' t' : Sg) : Prop := DyR n dd e x s' t' ∧ (RwR 51 2030 s' (t'.1 1) x ∧ VdR 2030 (t'.1 1) x) ∧ (s.1 7 2).toInt ≤ (s'.1 7 4).toInt ∧ s'.1 72 x = s.1 72 x
theorem row_0 {x : Nat} {b : Int32} (hb : b.toInt = 2030 + 6 * (x : Int)) : b.toNatClampNeg = 2030 + 6 * x + 0 := cl_h (by omega)
theorem tst_n {n : Nat} {dd e : Int} {x : Nat} {s t : Sg} (h : DyR n dd e x s t) (hx : x < 60) (a b : Int32) (ha : a.toInt = (x : Int)) (hb : b.toInt = 2030 + 6 * (x : Int)) (hw : s.1 72 x = 124) (hv : (s.1 76 x = 125 ∧ t.1 1 (2030 + 6 * x) = 2428) ∨ (s.1 76 x = 126 ∧ t.1 1 (2030 + 6 * x) = 2429)) (r0 : Int32) (hr : ¬ r0 = 30) (KK : Sg → Option (Int32 × Sg)) : RQ (f_X1_takeTest_b40 a s) (bd (f_X12_ahead t) (fun _ t6 => if r0 = 30 then KK t6 else bd (f_X12_oldOne 8 (t6.1 1 1) (b + 1) t6) (fun r t => ck (r = 0 ∨ r = 1) (some (r, t))))) (Og (OrP n dd e x s)) := by
  unfold f_X1_takeTest_b40
  refine rq_b2 (adv_s h.1.1.1) (fun _ s4 _ t6 w => rq_iM (fun y => absurd y hr) (fun _ => rq_kM ?_))
  obtain ⟨D, C⟩ := dy_st w h
  refine rq_w (old_d (q := 1) (j := 1) D (by decide) (by decide) a (b + 1) 8 _ ha (row_p (j := 1) hb hx 1 rfl (by decide)) rfl rfl) (fun r s' r' t' g => ?_)
  rcases g with ⟨g1, g2, ⟨g3, g4⟩, g5, g6⟩ | g
  · have c72 : s'.1 72 x = s.1 72 x := by rw [g4.2.1 72 (by decide) (by decide) x (fun z => absurd z.1 (by decide)), C.1 72 (by decide) (by decide)]
    have c76 : s'.1 76 x = s.1 76 x := by rw [g4.2.1 76 (by decide) (by decide) x (fun z => absurd z.1 (by decide)), C.1 76 (by decide) (by decide)]
    have cm0 : t'.1 1 (2030 + 6 * x) = t.1 1 (2030 + 6 * x) := by rw [g4.2.2 _ (by omega), C.2]
    have cm1 : t'.1 1 1 = t6.1 1 1 := g4.2.2 _ (by omega)
    have hp := tk_pos D.1.1.1
    have hp2 := w.2.2.2
    refine Or.inl ⟨g1, g2, g3, ⟨?_, ?_⟩, by omega, c72⟩
    · refine Or.inr (Or.inr (Or.inr (Or.inr (Or.inr (Or.inr (Or.inr (Or.inr (Or.inr ⟨c72.trans hw, g4.1, ?_⟩))))))))
      rcases hv with z | z
      · exact Or.inl ⟨c76.trans z.1, cm0.trans z.2⟩
      · exact Or.inr (Or.inl ⟨c76.trans z.1, cm0.trans z.2⟩)
    · refine vd_q ?_ ?_
      · rcases hv with z | z
        · exact Or.inl (cm0.trans z.2)
        · exact Or.inr (cm0.trans z.2)
      · rw [cm1]
        exact g5
  · exact Or.inr g
theorem tst_s {n : Nat} {dd e : Int} {x : Nat} {s t : Sg} (h : DyR n dd e x s t) (hx : x < 60) (a b c : Int32) (ha : a.toInt = (x : Int)) (hb : b.toInt = 2030 + 6 * (x : Int)) (hw : s.1 72 x = 124) (hk : s.1 7 3 = c) (hc : c = 60 ∨ c = 62 ∨ c = 61) (c76 : s.1 76 x = c) (c73 : s.1 73 x = t.1 1 (2030 + 6 * x + 1)) (m0 : t.1 1 (2030 + 6 * x) = 2430) (hh : (0 ≤ (t.1 1 (2030 + 6 * x + 1)).toInt ∧ (t.1 1 (2030 + 6 * x + 1)).toInt < (t.1 1 0).toInt) ∧ ¬ bt (t.1 1 9) (t.1 1 (2030 + 6 * x + 1)).toInt.toNat = true) : RQ (f_X1_takeTest_b180 a s) (f_X12_test_b101 b t) (Og (OrP n dd e x s)) := by
  have k15 : t.1 0 15 = c := by
    have cc : ¬ c = 0 ∧ ¬ c = 4 ∧ ¬ c = 3 ∧ ¬ c = 2 ∧ ¬ c = 1 ∧ c.toInt < 100 := by rcases hc with z | z | z <;> subst z <;> decide
    rcases knd_of h.1.1.1 with z | z | z | z | ⟨-, z | z | ⟨i, z, z'⟩⟩
    · exact absurd (hk.symm.trans z.1) cc.1
    · exact absurd (hk.symm.trans z.1) cc.2.1
    · exact absurd (hk.symm.trans z.1) cc.2.2.1
    · exact z.2.2.trans hk
    · exact absurd (hk.symm.trans z) cc.2.2.2.1
    · exact absurd (hk.symm.trans z) cc.2.2.2.2.1
    · rw [hk] at z'
      have := cc.2.2.2.2.2
      omega
  unfold f_X1_takeTest_b180 f_X12_test_b101
  refine rq_cM (fun _ => rq_nM (fun t18 e18 => ?_))
  rw [row_p (j := 5) hb hx 5 rfl (by decide), k15] at e18
  have D18 : DyR n dd e x s t18 := by
    rw [e18]
    exact stm_d h (by decide) c
  refine rq_b2 (adv_s D18.1.1.1) (fun _ s17 _ t20 w => ?_)
  obtain ⟨D20, C20⟩ := dy_st w D18
  refine rq_kM (rq_idM (rq_b2 (num_r D20.1.1.1 D20.1.1.2 0 9999 (b + 2) _ (row_p (j := 2) hb hx 2 rfl (by decide))) (fun r s19 r' t22 g => ?_)))
  rcases g with ⟨z, z', w'⟩ | ⟨z, z', w'⟩ <;> subst z <;> subst z'
  · refine rq_cC (fun _ => rq_nC (fun s21 e21 => rq_cC (fun _ => rq_s (Or.inl ⟨rfl, rfl, ?_⟩))))
    rw [cl_h ha] at e21
    obtain ⟨⟨d1, d2⟩, d3, d4⟩ := nu_st D20 w' (by decide)
    rw [← e21] at d1 d2 d4
    have f72 : s21.1 72 x = 124 := by rw [d2.2.1 72 (by decide) (by decide) x (fun z => absurd z.1 (by decide)), C20.1 72 (by decide) (by decide), hw]
    have f73 : s21.1 73 x = t.1 1 (2030 + 6 * x + 1) := by rw [d2.2.1 73 (by decide) (by decide) x (fun z => absurd z.1 (by decide)), C20.1 73 (by decide) (by decide), c73]
    have f76 : s21.1 76 x = c := by rw [d2.2.1 76 (by decide) (by decide) x (fun z => absurd z.1 (by decide)), C20.1 76 (by decide) (by decide), c76]
    have fm : ∀ p, ¬ p = 2030 + 6 * x + 2 → ¬ p = 2030 + 6 * x + 5 → t22.1 1 p = t.1 1 p := fun p h1 h2 => by
      rw [d2.2.2 p h1, C20.2, e18, pI_1, if_neg (fun z => h2 z.2)]
    have fm5 : t22.1 1 (2030 + 6 * x + 5) = c := by rw [d2.2.2 _ (by omega), C20.2, e18, q_eq]
    have hp := tk_pos D20.1.1.1
    have hp2 := w.2.2.2
    refine ⟨d1, ⟨?_, ?_⟩, by omega, f72.trans hw.symm⟩
    · refine Or.inr (Or.inr (Or.inr (Or.inr (Or.inr (Or.inr (Or.inr (Or.inr (Or.inr ⟨f72, f73.trans (fm _ (by omega) (by omega)).symm, Or.inr (Or.inr ⟨f76.trans fm5.symm, ?_, d2.1, (fm _ (by omega) (by omega)).trans m0⟩)⟩))))))))
      show s21.1 76 x = 60 ∨ s21.1 76 x = 62 ∨ s21.1 76 x = 61
      rw [f76]
      exact hc
    · refine vd_h (Or.inr ((fm _ (by omega) (by omega)).trans m0)) ?_
      rw [fm (2030 + 6 * x + 1) (by omega) (by omega), fm 0 (by omega) (by omega), fm 9 (by omega) (by omega)]
      exact hh
  · refine rq_cC (fun _ => rq_nC (fun s21 e21 => rq_cC (fun _ => rq_s (Or.inr ⟨rfl, rfl, ?_⟩))))
    rw [e21]
    unfold FtR
    rw [q_nc rfl, q_nc rfl]
    exact w'
theorem test_d {n : Nat} {dd e : Int} {x : Nat} {s t : Sg} (h : DyR n dd e x s t) (hx : x < 60) (a b : Int32) (ha : a.toInt = (x : Int)) (hb : b.toInt = 2030 + 6 * (x : Int)) (hw : s.1 72 x = 124) : RQ (f_X1_takeTest a s) (f_X12_test b t) (Og (OrP n dd e x s)) := by
  unfold f_X1_takeTest f_X12_test
  refine rq_cC (fun _ => rq_nC (fun s2 e2 => ?_))
  rw [cl_h ha] at e2
  have D2 : DyR n dd e x s2 t := by
    rw [e2]
    exact stc_d h _
  have k2 : s2.1 7 3 = s.1 7 3 := by rw [e2, q_nc rfl]
  have l2 : s2.1 7 2 = s.1 7 2 := by rw [e2, q_nc rfl]
  have w2 : s2.1 72 x = 124 := by rw [e2, q_nc rfl, hw]
  have v2 : s2.1 76 x = s2.1 7 3 := by rw [k2, e2, q_eq]
  refine rq_bM (word_r D2.1.1.1) (fun r t2 m => ?_)
  obtain ⟨et, mk, -⟩ := m
  rw [et]
  have nm : ∀ (r : Int32) (KK : Sg → Option (Int32 × Sg)), ¬ r = 30 → (s2.1 7 3 = 125 ∧ r = 28) ∨ (s2.1 7 3 = 126 ∧ r = 29) → RQ (f_X1_takeTest_b40 a s2) (bd (f_X12_ahead (pI t 1 b.toNatClampNeg (2400 + r))) (fun _ t6 => if r = 30 then KK t6 else bd (f_X12_oldOne 8 (t6.1 1 1) (b + 1) t6) (fun r t => ck (r = 0 ∨ r = 1) (some (r, t))))) (Og (OrP n dd e x s)) := fun r KK nr hr => by
    rw [row_0 hb]
    refine rq_w (tst_n (stm_d D2 (by decide) _) hx a b ha hb w2 ?_ r nr KK) (fun r1 s' r2 t' g => ?_)
    · rcases hr with ⟨z, z'⟩ | ⟨z, z'⟩
      · exact Or.inl ⟨v2.trans z, by rw [z', show 2030 + 6 * x + 0 = 2030 + 6 * x from rfl, q_eq]; decide⟩
      · exact Or.inr ⟨v2.trans z, by rw [z', show 2030 + 6 * x + 0 = 2030 + 6 * x from rfl, q_eq]; decide⟩
    · rcases g with ⟨g1, g2, g3, g4, g5, g6⟩ | g
      · exact Or.inl ⟨g1, g2, g3, g4, by rw [← l2]; exact g5, g6.trans (w2.trans hw.symm)⟩
      · exact Or.inr g
  rcases kw_t mk with ⟨z, z'⟩ | ⟨z, z'⟩ | ⟨z, z'⟩ | ⟨⟨z1, z2, z3⟩, z'⟩
  · subst z'
    refine rq_iC (fun _ => rq_iM (fun _ => rq_cM (fun _ => rq_nM (fun t4 e4 => ?_))) (fun y => absurd (by decide) y)) (fun y => absurd z y)
    rw [e4]
    exact nm 28 _ (by decide) (Or.inl ⟨z, rfl⟩)
  · subst z'
    refine rq_iC (fun y => absurd (z.symm.trans y) (by decide)) (fun _ => rq_iC (fun _ => rq_iM (fun _ => rq_cM (fun _ => rq_nM (fun t4 e4 => ?_))) (fun y => absurd (by decide) y)) (fun y => absurd z y))
    rw [e4]
    exact nm 29 _ (by decide) (Or.inr ⟨z, rfl⟩)
  · subst z'
    refine rq_iC (fun y => absurd (z.symm.trans y) (by decide)) (fun _ => rq_iC (fun y => absurd (z.symm.trans y) (by decide)) (fun _ => rq_iM (fun _ => rq_cM (fun _ => rq_nM (fun t4 e4 => ?_))) (fun y => absurd (by decide) y)))
    rw [row_0 hb] at e4
    have D4 : DyR n dd e x s2 t4 := by
      rw [e4]
      exact stm_d D2 (by decide) _
    have m4 : t4.1 1 (2030 + 6 * x) = 2430 := by
      rw [e4, show 2030 + 6 * x + 0 = 2030 + 6 * x from rfl, q_eq]
      decide
    unfold f_X7_pass
    refine rc_i (fun _ => rc_b ?_) (fun y => absurd z y)
    refine rq_b2 (adv_s D4.1.1.1) (fun _ s4 _ t6 w => rc_s (rq_iC (fun y => absurd y i10) (fun _ => rq_iM (fun _ => ?_) (fun y => absurd rfl y))))
    obtain ⟨D6, C6⟩ := dy_st w D4
    refine rq_b2 (house_d D6 (cc := 73) (Or.inl rfl) a (b + 1) ha (row_p (j := 1) hb hx 1 rfl (by decide))) (fun r s14 r' t8 g => og_i g (fun g => ?_))
    obtain ⟨⟨D8, C8⟩, g5, g6⟩ := g
    refine rq_nC (fun s15 e15 => ?_)
    rw [cl_h ha] at e15
    have D15 : DyR n dd e x s15 t8 := by
      rw [e15]
      exact stc_d D8 _
    have k15 : s15.1 7 3 = s14.1 7 3 := by rw [e15, q_nc rfl]
    have l15 : s15.1 7 2 = s14.1 7 2 := by rw [e15, q_nc rfl]
    have v15 : s15.1 76 x = s15.1 7 3 := by rw [k15, e15, q_eq]
    have w15 : s15.1 72 x = 124 := by rw [e15, q_nc rfl, C8.2.1 72 (by decide) (by decide) x (fun y => absurd y.1 (by decide)), C6.1 72 (by decide) (by decide), w2]
    have f15 : s15.1 73 x = t8.1 1 (2030 + 6 * x + 1) := by rw [e15, q_nc rfl, C8.1]
    have m8 : t8.1 1 (2030 + 6 * x) = 2430 := by rw [C8.2.2 _ (by omega), C6.2, m4]
    have m80 : t8.1 1 0 = t6.1 1 0 := C8.2.2 _ (by omega)
    have m89 : t8.1 1 9 = t6.1 1 9 := C8.2.2 _ (by omega)
    rw [← m80, ← m89] at g5
    have hp1 := tk_pos D6.1.1.1
    have hp2 := w.2.2.2
    have hp3 := tk_pos D8.1.1.1
    have done : ∀ c : Int32, s15.1 7 3 = c → (c = 60 ∨ c = 62 ∨ c = 61) → RQ (f_X1_takeTest_b180 a s15) (f_X12_test_b101 b t8) (Og (OrP n dd e x s)) := fun c y1 y2 => by
      refine rq_w (tst_s D15 hx a b c ha hb w15 y1 y2 (v15.trans y1) f15 m8 g5) (fun r1 s' r2 t' g => ?_)
      rcases g with ⟨q1, q2, q3, q4, q5, q6⟩ | g
      · refine Or.inl ⟨q1, q2, q3, q4, ?_, q6.trans (w15.trans hw.symm)⟩
        rw [l15] at q5
        rw [l2] at hp2
        omega
      · exact Or.inr g
    refine rq_bM (sign_r D15.1.1.1 60 (Or.inr (Or.inl rfl))) (fun r9 t9 m => ?_)
    obtain ⟨e9, m⟩ := m
    rw [e9]
    rcases m with ⟨m1, m2⟩ | ⟨m1, m2⟩ <;> rw [m1]
    · exact rq_iC (fun _ => rq_iM (fun y => absurd y i10) (fun _ => done 60 m2 (Or.inl rfl))) (fun y => absurd m2 y)
    · refine rq_iC (fun y => absurd y m2) (fun _ => rq_iM (fun _ => ?_) (fun y => absurd rfl y))
      refine rq_bM (sign_r D15.1.1.1 62 (Or.inr (Or.inr (Or.inl rfl)))) (fun r9 t9 m => ?_)
      obtain ⟨e9, m⟩ := m
      rw [e9]
      rcases m with ⟨m1, m3⟩ | ⟨m1, m3⟩ <;> rw [m1]
      · exact rq_iC (fun _ => rq_iM (fun y => absurd y i10) (fun _ => done 62 m3 (Or.inr (Or.inl rfl)))) (fun y => absurd m3 y)
      · refine rq_iC (fun y => absurd y m3) (fun _ => rq_iM (fun _ => ?_) (fun y => absurd rfl y))
        refine rq_bM (sign_r D15.1.1.1 61 (Or.inr (Or.inr (Or.inr rfl)))) (fun r9 t9 m => ?_)
        obtain ⟨e9, m⟩ := m
        rw [e9]
        rcases m with ⟨m1, m4⟩ | ⟨m1, m4⟩ <;> rw [m1]
        · exact rq_iC (fun _ => rq_iM (fun y => absurd y i10) (fun _ => done 61 m4 (Or.inr (Or.inr rfl)))) (fun y => absurd m4 y)
        · refine rq_iC (fun y => absurd y m4) (fun _ => rq_iM (fun _ => ?_) (fun y => absurd rfl y))
          exact og_f D15.1.1.1 D15.1.1.2 2 (by decide)
  · refine rq_iC (fun y => absurd y z1) (fun _ => rq_iC (fun y => absurd y z2) (fun _ => rq_iM (fun y => absurd y z') (fun _ => ?_)))
    unfold f_X7_pass
    refine rc_i (fun y => absurd y z3) (fun _ => rc_b ?_)
    refine rq_b2 (fails_r D2.1.1.1 D2.1.1.2 2 (by decide)) (fun r1 s1 r2 t1 g => ?_)
    obtain ⟨g1, g2, g3⟩ := g
    rw [g1, g2]
    exact rc_c (fun _ => rc_s (rq_iC (fun _ => rq_cM (fun _ => rq_s (Or.inr ⟨rfl, rfl, g3⟩))) (fun y => absurd rfl y)))
/-! days: each kind of row; a step is begun, a step is done -/
theorem b249_0 : K0 f_X1_takeStep_b249 := fun t => by
  unfold f_X1_takeStep_b249
  exact if_pos rfl
theorem fin_k {G H : Sg → Sg → Prop} {kC kM : Int32 → Sg → Option (Int32 × Sg)} {r r' : Int32} {s t : Sg} (hC : K0 kC) (hM : K0 kM) (g : Og G r s r' t) (h : G s t → RQ (kC 1 s) (kM 1 t) (Og H)) : RQ (kC r s) (kM r' t) (Og H) := by
  rcases g with ⟨z, z', w⟩ | ⟨z, z', w⟩ <;> subst z <;> subst z'
  · exact h w
  · rw [hC, hM]
    exact rq_s (Or.inr ⟨rfl, rfl, w⟩)
theorem ch72 {x c j : Nat} {s t s' t' : Sg} (C : Ch x c j s t s' t') (c' : Nat) (h1 : 72 ≤ c') (h2 : c' ≤ 77) (hc : ¬ c' = c) : s'.1 c' x = s.1 c' x := C.2.1 c' h1 h2 x (fun z => hc z.1)
theorem chm {x c j : Nat} {s t s' t' : Sg} (C : Ch x c j s t s' t') (p : Nat) (hp : ¬ p = 2030 + 6 * x + j) : t'.1 1 p = t.1 1 p := C.2.2 p hp
/-- what the end of an order wants -/
def HkP (n : Nat) (dd e : Int) (x : Nat) (s : Sg) (kM : Int32 → Sg → Option (Int32 × Sg)) (H : Sg → Sg → Prop) : Prop := ∀ s' t', OrP n dd e x s s' t' → s'.1 72 x = s.1 72 x → RQ (f_X1_takeStep_b249 1 s') (kM 1 t') (Og H)
theorem ord_n {n : Nat} {dd e : Int} {x : Nat} {s t : Sg} {kM : Int32 → Sg → Option (Int32 × Sg)} {H : Sg → Sg → Prop} (h : DyR n dd e x s t) (hx : x < 60) (hM : K0 kM) (a b lo hi : Int32) (ha : a.toInt = (x : Int)) (hb : b.toInt = 2030 + 6 * (x : Int)) (hr : ∀ s' t' : Sg, s'.1 72 x = s.1 72 x → t'.1 1 (2030 + 6 * x) = t.1 1 (2030 + 6 * x) → s'.1 74 x = t'.1 1 (2030 + 6 * x + 1) → (lo.toInt ≤ (t'.1 1 (2030 + 6 * x + 1)).toInt ∧ (t'.1 1 (2030 + 6 * x + 1)).toInt ≤ hi.toInt) → RwR 51 2030 s' (t'.1 1) x ∧ VdR 2030 (t'.1 1) x) (hk : HkP n dd e x s kM H) : RQ (bd (f_X1_takeNumber a lo hi s) (fun r s => f_X1_takeStep_b249 r s)) (bd (bd (f_X12_number (b + 1) lo hi t) (fun r t => ck (r = 0 ∨ r = 1) (some (r, t)))) kM) (Og H) := by
  refine rq_b2 (rq_kM (num_d h a (b + 1) lo hi ha (row_p (j := 1) hb hx 1 rfl (by decide)) (by decide))) (fun r s' r' t' g => fin_k b249_0 hM g (fun g => ?_))
  obtain ⟨⟨D, C⟩, g5, g6⟩ := g
  exact hk s' t' ⟨D, hr s' t' (ch72 C 72 (by decide) (by decide) (by decide)) (chm C _ (by omega)) C.1 g5, g6, ch72 C 72 (by decide) (by decide) (by decide)⟩ (ch72 C 72 (by decide) (by decide) (by decide))
theorem ord_116 {n : Nat} {dd e : Int} {x : Nat} {s t : Sg} {kM : Int32 → Sg → Option (Int32 × Sg)} {H : Sg → Sg → Prop} (h : DyR n dd e x s t) (hx : x < 60) (hM : K0 kM) (a b : Int32) (ha : a.toInt = (x : Int)) (hb : b.toInt = 2030 + 6 * (x : Int)) (hw : s.1 72 x = 116) (hm : t.1 1 (2030 + 6 * x) = 4) (hk : HkP n dd e x s kM H) : RQ (OrC 116 a s) (bd (f_X12_dayOrder 4 b t) kM) (Og H) := by
  rw [oc_116, do_4]
  refine ord_n h hx hM a b 0 16 ha hb (fun s' t' z1 z2 z3 z4 => ⟨Or.inr (Or.inr (Or.inr (Or.inl ⟨z1.trans hw, z2.trans hm, z3⟩))), ?_⟩) hk
  unfold VdR
  rw [z2, hm]
  exact vd_4 z4
theorem ord_122 {n : Nat} {dd e : Int} {x : Nat} {s t : Sg} {kM : Int32 → Sg → Option (Int32 × Sg)} {H : Sg → Sg → Prop} (h : DyR n dd e x s t) (hx : x < 60) (hM : K0 kM) (a b : Int32) (ha : a.toInt = (x : Int)) (hb : b.toInt = 2030 + 6 * (x : Int)) (hw : s.1 72 x = 122) (hm : t.1 1 (2030 + 6 * x) = 22) (hk : HkP n dd e x s kM H) : RQ (OrC 122 a s) (bd (f_X12_dayOrder 22 b t) kM) (Og H) := by
  rw [oc_122, do_22]
  refine ord_n h hx hM a b 0 99 ha hb (fun s' t' z1 z2 z3 z4 => ⟨Or.inr (Or.inr (Or.inr (Or.inr (Or.inl ⟨z1.trans hw, z2.trans hm, z3⟩)))), ?_⟩) hk
  unfold VdR
  rw [z2, hm]
  exact vd_22 z4
theorem ord_128 {n : Nat} {dd e : Int} {x : Nat} {s t : Sg} {kM : Int32 → Sg → Option (Int32 × Sg)} {H : Sg → Sg → Prop} (h : DyR n dd e x s t) (hx : x < 60) (hM : K0 kM) (a b : Int32) (ha : a.toInt = (x : Int)) (hb : b.toInt = 2030 + 6 * (x : Int)) (hw : s.1 72 x = 128) (hm : t.1 1 (2030 + 6 * x) = 25) (hk : HkP n dd e x s kM H) : RQ (OrC 128 a s) (bd (f_X12_dayOrder 25 b t) kM) (Og H) := by
  rw [oc_128, do_25]
  refine ord_n h hx hM a b 1 99 ha hb (fun s' t' z1 z2 z3 z4 => ⟨Or.inr (Or.inr (Or.inr (Or.inr (Or.inr (Or.inr (Or.inl ⟨z1.trans hw, z2.trans hm, z3⟩)))))), ?_⟩) hk
  unfold VdR
  rw [z2, hm]
  exact vd_25 z4
theorem ord_123 {s t : Sg} {kM : Int32 → Sg → Option (Int32 × Sg)} {H : Sg → Sg → Prop} (a b : Int32) (hk : RQ (f_X1_takeStep_b249 1 s) (kM 1 t) (Og H)) : RQ (OrC 123 a s) (bd (f_X12_dayOrder 23 b t) kM) (Og H) := by
  rw [oc_123, do_23]
  exact rm_s hk
theorem ord_130 {s t : Sg} {kM : Int32 → Sg → Option (Int32 × Sg)} {H : Sg → Sg → Prop} (a b : Int32) (hk : RQ (f_X1_takeStep_b249 1 s) (kM 1 t) (Og H)) : RQ (OrC 130 a s) (bd (f_X12_dayOrder 27 b t) kM) (Og H) := by
  rw [oc_130, do_27]
  exact rm_s hk
theorem ord_124 {n : Nat} {dd e : Int} {x : Nat} {s t : Sg} {kM : Int32 → Sg → Option (Int32 × Sg)} {H : Sg → Sg → Prop} (h : DyR n dd e x s t) (hx : x < 60) (hM : K0 kM) (a b : Int32) (ha : a.toInt = (x : Int)) (hb : b.toInt = 2030 + 6 * (x : Int)) (hw : s.1 72 x = 124) (hk : ∀ s' t', OrP n dd e x s s' t' → RQ (f_X1_takeStep_b249 1 s') (kM 1 t') (Og H)) : RQ (OrC 124 a s) (bd (f_X12_dayOrder 24 b t) kM) (Og H) := by
  rw [oc_124, do_24]
  exact rq_b2 (rq_kM (test_d h hx a b ha hb hw)) (fun r s' r' t' g => fin_k b249_0 hM g (fun g => hk s' t' g))
theorem ord_121 {n : Nat} {dd e : Int} {x : Nat} {s t : Sg} {kM : Int32 → Sg → Option (Int32 × Sg)} {H : Sg → Sg → Prop} (h : DyR n dd e x s t) (hx : x < 60) (hM : K0 kM) (a b : Int32) (ha : a.toInt = (x : Int)) (hb : b.toInt = 2030 + 6 * (x : Int)) (hw : s.1 72 x = 121) (hm : t.1 1 (2030 + 6 * x) = 21) (hk : HkP n dd e x s kM H) : RQ (OrC 121 a s) (bd (f_X12_dayOrder 21 b t) kM) (Og H) := by
  rw [oc_121, do_21]
  refine rq_b2 (rq_kM (house_d h (cc := 73) (Or.inl rfl) a (b + 1) ha (row_p (j := 1) hb hx 1 rfl (by decide)))) (fun r s' r' t' g => fin_k b249_0 hM g (fun g => ?_))
  obtain ⟨⟨D, C⟩, g5, g6⟩ := g
  have m0 := (chm C (2030 + 6 * x) (by omega)).trans hm
  refine hk s' t' ⟨D, ⟨Or.inr (Or.inr (Or.inl ⟨(ch72 C 72 (by decide) (by decide) (by decide)).trans hw, m0, C.1⟩)), ?_⟩, g6, ch72 C 72 (by decide) (by decide) (by decide)⟩ (ch72 C 72 (by decide) (by decide) (by decide))
  refine vd_h (Or.inl m0) ?_
  rw [chm C 0 (by omega), chm C 9 (by omega)]
  exact g5
theorem ord_120 {n : Nat} {dd e : Int} {x : Nat} {s t : Sg} {kM : Int32 → Sg → Option (Int32 × Sg)} {H : Sg → Sg → Prop} (h : DyR n dd e x s t) (hx : x < 60) (hM : K0 kM) (a b : Int32) (ha : a.toInt = (x : Int)) (hb : b.toInt = 2030 + 6 * (x : Int)) (hw : s.1 72 x = 120) (hm : t.1 1 (2030 + 6 * x) = 19) (hk : HkP n dd e x s kM H) : RQ (OrC 120 a s) (bd (f_X12_dayOrder 19 b t) kM) (Og H) := by
  rw [oc_120, do_19]
  refine rm_b (rq_b2 (house_d h (cc := 73) (Or.inl rfl) a (b + 1) ha (row_p (j := 1) hb hx 1 rfl (by decide))) (fun r s1 r' t1 g => ?_))
  rw [b127_e]
  refine og_k hM g (fun g => rm_b (rq_b2 (num_d g.1.1 a (b + 2) 1 999 ha (row_p (j := 2) hb hx 2 rfl (by decide)) (by decide)) (fun r s2 r' t2 g2 => ?_)))
  rw [b127_e]
  refine og_k hM g2 (fun g2 => rm_s ?_)
  obtain ⟨⟨D1, C1⟩, g5, g6⟩ := g
  obtain ⟨⟨D2, C2⟩, k5, k6⟩ := g2
  have m0 : t2.1 1 (2030 + 6 * x) = 19 := by rw [chm C2 _ (by omega), chm C1 _ (by omega), hm]
  have m1 : t2.1 1 (2030 + 6 * x + 1) = t1.1 1 (2030 + 6 * x + 1) := chm C2 _ (by omega)
  have c72 : s2.1 72 x = s.1 72 x := by rw [ch72 C2 72 (by decide) (by decide) (by decide), ch72 C1 72 (by decide) (by decide) (by decide)]
  have hp1 := tk_pos D1.1.1.1
  refine hk s2 t2 ⟨D2, ⟨Or.inl ⟨c72.trans hw, m0, ?_, C2.1⟩, ?_⟩, by omega, c72⟩ c72
  · show s2.1 73 x = t2.1 1 (2030 + 6 * x + 1)
    rw [ch72 C2 73 (by decide) (by decide) (by decide), m1, C1.1]
  · unfold VdR
    rw [m0, m1]
    refine vd_19 ?_ k5
    rw [chm C2 0 (by omega), chm C2 9 (by omega), chm C1 0 (by omega), chm C1 9 (by omega)]
    exact g5
theorem ord_119 {n : Nat} {dd e : Int} {x : Nat} {s t : Sg} {kM : Int32 → Sg → Option (Int32 × Sg)} {H : Sg → Sg → Prop} (h : DyR n dd e x s t) (hx : x < 60) (hM : K0 kM) (a b : Int32) (ha : a.toInt = (x : Int)) (hb : b.toInt = 2030 + 6 * (x : Int)) (hw : s.1 72 x = 119) (hm : t.1 1 (2030 + 6 * x) = 20) (hk : HkP n dd e x s kM H) : RQ (OrC 119 a s) (bd (f_X12_dayOrder 20 b t) kM) (Og H) := by
  rw [oc_119, do_20]
  refine rm_b (rq_b2 (old_d (q := 3) (j := 3) h (by decide) (by decide) a (b + 3) 20 _ ha (row_p (j := 3) hb hx 3 rfl (by decide)) rfl rfl) (fun r s1 r' t1 g => ?_))
  rw [b183_e]
  refine og_k hM g (fun g => rm_b (rq_b2 (num_d g.1.1 a (b + 2) 1 999 ha (row_p (j := 2) hb hx 2 rfl (by decide)) (by decide)) (fun r s2 r' t2 g2 => ?_)))
  rw [b183_e]
  refine og_k hM g2 (fun g2 => rm_b (rq_b2 (pass_w g2.1.1.1.1.1 g2.1.1.1.1.2 110 12 10 (by decide) rfl (by decide +kernel)) (fun r s3 r' t3 g3 => ?_)))
  rw [b183_e]
  obtain ⟨⟨D1, C1⟩, g5, g6⟩ := g
  obtain ⟨⟨D2, C2⟩, k5, k6⟩ := g2
  refine og_k hM g3 (fun w3 => ?_)
  obtain ⟨D3, C3⟩ := dy_st w3 D2
  refine rm_b (rq_b2 (house_d D3 (cc := 75) (Or.inr rfl) a (b + 1) ha (row_p (j := 1) hb hx 1 rfl (by decide))) (fun r s4 r' t4 g4 => ?_))
  rw [b183_e]
  refine og_k hM g4 (fun g4 => rm_s ?_)
  obtain ⟨⟨D4, C4⟩, q5, q6⟩ := g4
  have m0 : t4.1 1 (2030 + 6 * x) = 20 := by rw [chm C4 _ (by omega), C3.2, chm C2 _ (by omega), chm C1 _ (by omega), hm]
  have m2 : t4.1 1 (2030 + 6 * x + 2) = t2.1 1 (2030 + 6 * x + 2) := by rw [chm C4 _ (by omega), C3.2]
  have m3 : t4.1 1 (2030 + 6 * x + 3) = t1.1 1 (2030 + 6 * x + 3) := by rw [chm C4 _ (by omega), C3.2, chm C2 _ (by omega)]
  have c72 : s4.1 72 x = s.1 72 x := by rw [ch72 C4 72 (by decide) (by decide) (by decide), C3.1 72 (by decide) (by decide), ch72 C2 72 (by decide) (by decide) (by decide), ch72 C1 72 (by decide) (by decide) (by decide)]
  have hp1 := tk_pos D1.1.1.1
  have hp2 := tk_pos D2.1.1.1
  have hp3 := tk_pos D3.1.1.1
  have hp4 := w3.2.2.2
  refine hk s4 t4 ⟨D4, ⟨Or.inr (Or.inl ⟨c72.trans hw, m0, ?_, ?_, C4.1⟩), ?_⟩, by omega, c72⟩ c72
  · show s4.1 73 x = t4.1 1 (2030 + 6 * x + 3)
    rw [ch72 C4 73 (by decide) (by decide) (by decide), C3.1 73 (by decide) (by decide), ch72 C2 73 (by decide) (by decide) (by decide), m3, C1.1]
  · show s4.1 74 x = t4.1 1 (2030 + 6 * x + 2)
    rw [ch72 C4 74 (by decide) (by decide) (by decide), C3.1 74 (by decide) (by decide), m2, C2.1]
  · unfold VdR
    rw [m0, m2, m3]
    refine vd_20 ?_ k5 ?_
    · rw [chm C4 0 (by omega), chm C4 9 (by omega)]
      exact q5
    · rw [chm C4 3 (by omega), C3.2, chm C2 3 (by omega), chm C1 3 (by omega)]
      exact g5
theorem rwa_n {w th nu ho te m0 m1 m2 m3 m5 : Int32} (h : RwA w th nu ho te m0 m1 m2 m3 m5) (nb : ¬ (w = 124 ∨ w = 128 ∨ w = 129)) : ¬ Blk m0 ∧ ¬ m0 = 26 := by
  unfold Blk
  rcases h with ⟨-, z, -⟩ | ⟨-, z, -⟩ | ⟨-, z, -⟩ | ⟨-, z, -⟩ | ⟨-, z, -⟩ | ⟨-, z⟩ | ⟨z, -⟩ | ⟨z, -⟩ | ⟨-, z⟩ | ⟨z, -⟩
  all_goals first | exact absurd (Or.inl z) nb | exact absurd (Or.inr (Or.inl z)) nb | exact absurd (Or.inr (Or.inr z)) nb | (rw [z]; decide)
theorem rwa_b {w th nu ho te m0 m1 m2 m3 m5 : Int32} (h : RwA w th nu ho te m0 m1 m2 m3 m5) (hb : w = 124 ∨ w = 128) : Blk m0 := by
  unfold Blk
  have h1 : ∀ v : Int32, w = v → ¬ v = 124 → ¬ v = 128 → False := fun v y y1 y2 => hb.elim (fun z => y1 (y.symm.trans z)) (fun z => y2 (y.symm.trans z))
  rcases h with ⟨z, -⟩ | ⟨z, -⟩ | ⟨z, -⟩ | ⟨z, -⟩ | ⟨z, -⟩ | ⟨z, -⟩ | ⟨-, z, -⟩ | ⟨z, -⟩ | ⟨z, -⟩ | ⟨-, -, ⟨-, z⟩ | ⟨-, z⟩ | ⟨-, -, -, z⟩⟩
  · exact (h1 _ z (by decide) (by decide)).elim
  · exact (h1 _ z (by decide) (by decide)).elim
  · exact (h1 _ z (by decide) (by decide)).elim
  · exact (h1 _ z (by decide) (by decide)).elim
  · exact (h1 _ z (by decide) (by decide)).elim
  · exact (h1 _ z (by decide) (by decide)).elim
  · exact Or.inl z
  · exact (h1 _ z (by decide) (by decide)).elim
  · exact (h1 _ z (by decide) (by decide)).elim
  · exact Or.inr (Or.inl z)
  · exact Or.inr (Or.inr (Or.inl z))
  · exact Or.inr (Or.inr (Or.inr z))
/-- the row is done: nothing is open by it, or it is pushed -/
theorem row_k {n : Nat} {x : Nat} {s t : Sg} (h : DyR n 0 1 x s t) (w : RwR 51 2030 s (t.1 1) x ∧ VdR 2030 (t.1 1) x) (nb : ¬ (s.1 72 x = 124 ∨ s.1 72 x = 128 ∨ s.1 72 x = 129)) : DyR n 0 0 (x + 1) s t := by
  obtain ⟨h1, ⟨h2, ⟨h3, h3'⟩, h4, h5⟩, ⟨h7, h9⟩, h8⟩ := h
  refine ⟨h1, ⟨h2, ⟨by omega, h3'⟩, h4, h5⟩, ⟨fun d hd => ⟨(h7 d hd).1, (h7 d hd).2.1, by have := (h7 d hd).2.2; omega⟩, fun z => absurd z (by decide), ns_k h9.2 (rwa_n w.1 nb).1 (rwa_n w.1 nb).2⟩, fun k hk => ?_⟩
  by_cases z : k = x
  · subst z
    exact ⟨w, fun z => absurd z nb⟩
  · exact h8 k (by omega)
theorem row_b {n : Nat} {x : Nat} {s t : Sg} (h : DyR n 1 1 x s t) (w : RwR 51 2030 s (t.1 1) x ∧ VdR 2030 (t.1 1) x) (hb : s.1 72 x = 124 ∨ s.1 72 x = 128) (v : Int32) (hv : v.toInt = (x : Int)) : DyR n 0 0 (x + 1) s (pI (pI t 8 ((t.1 0 22).toNatClampNeg) v) 0 22 ((t.1 0 22) + 1)) := by
  obtain ⟨⟨⟨h1, h1'⟩, hP, hN⟩, ⟨h2, ⟨h3, h3'⟩, h4, h5⟩, ⟨h7, h9⟩, h8⟩ := h
  have e1 : (1 : Int32).toInt = 1 := rfl
  have eD : ((t.1 0 22) + 1).toInt = (t.1 0 22).toInt + 1 := i_addx _ _ (by omega)
  have cl := cl_nat (t.1 0 22)
  have eq1 : (pI (pI t 8 ((t.1 0 22).toNatClampNeg) v) 0 22 ((t.1 0 22) + 1)).1 1 = t.1 1 := by rw [pI_o _ _ _ _ _ (by decide), pI_o _ _ _ _ _ (by decide)]
  have e22 : (pI (pI t 8 ((t.1 0 22).toNatClampNeg) v) 0 22 ((t.1 0 22) + 1)).1 0 22 = (t.1 0 22) + 1 := q_eq
  have e23 : (pI (pI t 8 ((t.1 0 22).toNatClampNeg) v) 0 22 ((t.1 0 22) + 1)).1 0 23 = t.1 0 23 := by rw [pI_1, if_neg (by decide), q_nc rfl]
  have e18 : (pI (pI t 8 ((t.1 0 22).toNatClampNeg) v) 0 22 ((t.1 0 22) + 1)).1 0 18 = t.1 0 18 := by rw [pI_1, if_neg (by decide), q_nc rfl]
  have e8 : ∀ d, (pI (pI t 8 ((t.1 0 22).toNatClampNeg) v) 0 22 ((t.1 0 22) + 1)).1 8 d = if d = (t.1 0 22).toNatClampNeg then v else t.1 8 d := fun d => by
    rw [q_nc rfl, pI_1]
    by_cases z : d = (t.1 0 22).toNatClampNeg
    · rw [if_pos ⟨rfl, z⟩, if_pos z]
    · rw [if_neg (fun y => z y.2), if_neg z]
  have tk2 : TkRel n s (pI (pI t 8 ((t.1 0 22).toNatClampNeg) v) 0 22 ((t.1 0 22) + 1)) := tk_f (L1 := 0) (L2 := 2 ^ 42) (tk_f (L1 := 0) (L2 := 2 ^ 8) h1 fr_r (fr_x 8 rfl) rfl (m_and rfl)) fr_r (fr_x 42 rfl) rfl (m_and rfl)
  refine ⟨⟨⟨tk2, e18.trans h1'⟩, ?_, ?_⟩, ⟨?_, ⟨?_, ?_⟩, ?_, ?_⟩, ⟨fun d hd => ?_, fun z => absurd z (by decide), ?_⟩, fun k hk => ?_⟩
  · rw [eq1]; exact hP
  · rw [eq1]; exact hN
  · rw [eq1, e22, e23]
    exact ⟨h2.1, h2.2.1, by omega, h2.2.2.2⟩
  · rw [eq1]; omega
  · rw [eq1, e22, e23]; omega
  · rw [e23]; exact h4
  · rw [e22]; omega
  · rw [e22] at hd
    rw [e8]
    by_cases z : d = (t.1 0 22).toNatClampNeg
    · rw [if_pos z]
      have y := h9.1 rfl
      rw [show (t.1 0 22).toInt.toNat = d by omega] at y
      exact ⟨Int32.toInt_inj.mp (y.trans hv.symm), by omega, by omega⟩
    · rw [if_neg z]
      have y := h7 d (by omega)
      exact ⟨y.1, y.2.1, by omega⟩
  · unfold NsR
    rw [eq1, e22, eD]
    exact ns_b h9.2 (rwa_b w.1 hb) hv (by omega : (t.1 0 22).toInt = ((t.1 0 22).toNatClampNeg : Int)) e8
  · rw [eq1]
    by_cases z : k = x
    · subst z
      refine ⟨w, fun _ y => ?_⟩
      have y2 := y (t.1 0 22).toNatClampNeg (by rw [e22]; omega)
      rw [e8, if_pos rfl] at y2
      exact absurd hv y2
    · obtain ⟨z1, z2⟩ := h8 k (by omega)
      refine ⟨z1, fun y1 y2 => ?_⟩
      rw [eq1]
      refine z2 y1 (fun d hd => ?_)
      have y3 := y2 d (by rw [e22]; omega)
      rw [e8, if_neg (by omega)] at y3
      exact y3
