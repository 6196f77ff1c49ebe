/-! a street's numbers: what they are between; the names that stay -/
def Zr0 (M : Nat → Int32) : Prop := (∀ h : Nat, h < 8 → (M 0).toInt ≤ (h : Int) → M (16 + 3 * h) = 0 ∧ M (17 + 3 * h) = 0) ∧ (∀ h : Nat, h < 8 → M (18 + 3 * h) = 0) ∧ (∀ g : Nat, g < 4 → (M 3).toInt ≤ (g : Int) → M (94 + 3 * g) = 0)
def Ce (M : Nat → Int32) : Prop := ∀ c : Nat, (c : Int) < (M 2).toInt → (0 ≤ (M (80 + 3 * c)).toInt ∧ (M (80 + 3 * c)).toInt < (M 0).toInt) ∧ (0 ≤ (M (81 + 3 * c)).toInt ∧ (M (81 + 3 * c)).toInt < (M 0).toInt)
def Cn4 (M : Nat → Int32) : Prop := (0 ≤ (M 0).toInt ∧ (M 0).toInt ≤ 8) ∧ (0 ≤ (M 1).toInt ∧ (M 1).toInt ≤ 8) ∧ (0 ≤ (M 2).toInt ∧ (M 2).toInt ≤ 4) ∧ (0 ≤ (M 3).toInt ∧ (M 3).toInt ≤ 4)
def BdM (M : Nat → Int32) : Prop := (PlB M ∧ Gz M) ∧ Zr0 M ∧ Ce M ∧ Cn4 M
theorem hb_fin {M M' : Nat → Int32} (h : BdM M) {n : Nat} (hn : (M 0).toInt = (n : Int)) (h8 : n < 8) (c0 : (M' 0).toInt = (n : Int) + 1) (sm : ∀ p, p < 480 → ¬ p = 0 → ¬ p = 9 → ¬ p = 16 + 3 * n → ¬ p = 17 + 3 * n → M' p = M p) (g : M' 9 = M 9 ∨ (M' 9 = M 9 ||| bitI n ∧ M' (16 + 3 * n) = M (16 + 3 * n) ∧ M' (17 + 3 * n) = M (17 + 3 * n))) : BdM M' := by
  obtain ⟨⟨⟨p1, p2, p3, p4, p5, p6⟩, gz⟩, ⟨z1, z2, z3⟩, ce, ⟨c1, c2, c3, c4⟩⟩ := h
  have s1 := sm 1 (by decide) (by decide) (by decide) (by omega) (by omega)
  have s2 := sm 2 (by decide) (by decide) (by decide) (by omega) (by omega)
  have s3 := sm 3 (by decide) (by decide) (by decide) (by omega) (by omega)
  have nb : ∀ x, ¬ x = n → bt (M' 9) x = bt (M 9) x := fun x hx => by
    rcases g with g | g
    · rw [g]
    · rw [g.1, bt_or, bt_bit (by omega)]
      rw [decide_eq_false hx, Bool.or_false]
  refine ⟨⟨⟨fun q hq => ?_, fun c hc => ?_, fun x hx => ?_, ?_, fun x hx => ?_, ?_⟩, fun x hx hb => ?_⟩, ⟨fun x hx hx0 => ?_, fun x hx => ?_, fun x hx hx3 => ?_⟩, fun c hc => ?_, ⟨by omega, by omega⟩, ?_, ?_, ?_⟩
  · rw [s1] at hq
    rw [sm _ (by omega) (by omega) (by omega) (by omega) (by omega)]
    exact p1 q hq
  · rw [s2] at hc
    have w := p2 c hc
    have e := ce c hc
    rw [sm (82 + 3 * c) (by omega) (by omega) (by omega) (by omega) (by omega), sm (80 + 3 * c) (by omega) (by omega) (by omega) (by omega) (by omega), sm (81 + 3 * c) (by omega) (by omega) (by omega) (by omega) (by omega), nb _ (by omega), nb _ (by omega)]
    exact w
  · rw [s3] at hx
    rw [sm _ (by omega) (by omega) (by omega) (by omega) (by omega), sm _ (by omega) (by omega) (by omega) (by omega) (by omega)]
    exact p3 x hx
  · rw [sm 13 (by decide) (by decide) (by decide) (by omega) (by omega)]
    exact p4
  · rw [nb x (by omega)]
    exact p5 x (by omega)
  · rw [sm 14 (by decide) (by decide) (by decide) (by omega) (by omega)]
    exact p6
  · by_cases y : x = n
    · subst y
      rcases g with g | g
      · rw [g, p5 x (by omega)] at hb
        exact absurd hb (by decide)
      · rw [g.2.1, g.2.2, sm _ (by omega) (by omega) (by omega) (by omega) (by omega)]
        exact ⟨(z1 x hx (by omega)).1, (z1 x hx (by omega)).2, z2 x hx⟩
    · rw [nb x y] at hb
      rw [sm _ (by omega) (by omega) (by omega) (by omega) (by omega), sm _ (by omega) (by omega) (by omega) (by omega) (by omega), sm _ (by omega) (by omega) (by omega) (by omega) (by omega)]
      exact gz x hx hb
  · rw [sm _ (by omega) (by omega) (by omega) (by omega) (by omega), sm _ (by omega) (by omega) (by omega) (by omega) (by omega)]
    exact z1 x hx (by omega)
  · rw [sm _ (by omega) (by omega) (by omega) (by omega) (by omega)]
    exact z2 x hx
  · rw [s3] at hx3
    rw [sm _ (by omega) (by omega) (by omega) (by omega) (by omega)]
    exact z3 x hx hx3
  · rw [s2] at hc
    have e := ce c hc
    rw [sm (80 + 3 * c) (by omega) (by omega) (by omega) (by omega) (by omega), sm (81 + 3 * c) (by omega) (by omega) (by omega) (by omega) (by omega)]
    exact ⟨by omega, by omega⟩
  · rw [s1]; exact c2
  · rw [s2]; exact c3
  · rw [s3]; exact c4
/-- what else may change: a quarrel, a cat, a grocer, the rain, the gone -/
theorem bd_fin {M M' : Nat → Int32} (h : BdM M) (e0 : M' 0 = M 0) (e9 : M' 9 = M 9) (eh : ∀ p, 16 ≤ p → p < 40 → M' p = M p) (q1 : ∀ q : Nat, (q : Int) < (M' 1).toInt → 1 ≤ (M' (42 + 5 * q)).toInt ∧ (M' (42 + 5 * q)).toInt ≤ 99) (k1 : 0 ≤ (M' 1).toInt ∧ (M' 1).toInt ≤ 8) (q2 : ∀ c : Nat, (c : Int) < (M' 2).toInt → ((1 ≤ (M' (82 + 3 * c)).toInt ∧ (M' (82 + 3 * c)).toInt ≤ 99) ∧ bt (M 9) (M' (80 + 3 * c)).toInt.toNat = false ∧ bt (M 9) (M' (81 + 3 * c)).toInt.toNat = false) ∧ (0 ≤ (M' (80 + 3 * c)).toInt ∧ (M' (80 + 3 * c)).toInt < (M 0).toInt) ∧ (0 ≤ (M' (81 + 3 * c)).toInt ∧ (M' (81 + 3 * c)).toInt < (M 0).toInt)) (k2 : 0 ≤ (M' 2).toInt ∧ (M' 2).toInt ≤ 4) (q3 : ∀ g : Nat, (g : Int) < (M' 3).toInt → (1 ≤ (M' (93 + 3 * g)).toInt ∧ (M' (93 + 3 * g)).toInt ≤ 99) ∧ (0 ≤ (M' (94 + 3 * g)).toInt ∧ (M' (94 + 3 * g)).toInt ≤ 16)) (k3 : 0 ≤ (M' 3).toInt ∧ (M' 3).toInt ≤ 4) (z3 : ∀ g : Nat, g < 4 → (M' 3).toInt ≤ (g : Int) → M' (94 + 3 * g) = 0) (w : 0 ≤ (M' 13).toInt ∧ (M' 13).toInt ≤ 99) (c14 : M' 14 = 0 ∨ M' 14 = 1) : BdM M' := by
  obtain ⟨⟨⟨p1, p2, p3, p4, p5, p6⟩, gz⟩, ⟨z1, z2, _⟩, ce, ⟨c1, c2, c3, c4⟩⟩ := h
  refine ⟨⟨⟨q1, fun c hc => by rw [e9]; exact (q2 c hc).1, q3, w, fun x hx => by rw [e0] at hx; rw [e9]; exact p5 x hx, c14⟩, fun x hx hb => ?_⟩, ⟨fun x hx hx0 => ?_, fun x hx => ?_, z3⟩, fun c hc => by rw [e0]; exact (q2 c hc).2, by rw [e0]; exact c1, k1, k2, k3⟩
  · rw [e9] at hb
    rw [eh _ (by omega) (by omega), eh _ (by omega) (by omega), eh _ (by omega) (by omega)]
    exact gz x hx hb
  · rw [e0] at hx0
    rw [eh _ (by omega) (by omega), eh _ (by omega) (by omega)]
    exact z1 x hx hx0
  · rw [eh _ (by omega) (by omega)]
    exact z2 x hx
/-! the reference's reader, step by step -/
theorem iw_d (s : Sg) : PQ (f_X12_inWords_1001 s) (fun r s' => s' = s ∧ f_X12_inWords_1001 s = some (r, s)) := fun r s' e => by
  have g := iw_k s r s' e
  subst g
  exact ⟨rfl, e⟩
theorem it_0 {s : Sg} {r a : Int32} (h : f_X12_inWords_1001 s = some (r, s)) (n : ¬ r = a) : f_X12_isThere a s = some (0, s) := by
  unfold f_X12_isThere
  rw [h]
  show (if r = a then _ else _) = _
  rw [if_neg n]
theorem it_k (a : Int32) (s : Sg) : PQ (f_X12_isThere a s) (fun _ s9 => s9.1 1 = s.1 1) := by
  unfold f_X12_isThere
  refine pq_b (iw_k s) (fun r s2 g => ?_)
  subst g
  exact pq_if (fun _ => pq_b (ah_k s2) (fun _ s4 k => pq_s k.1)) (fun _ => pq_s rfl)
theorem nw_k (a1 a2 a3 : Int32) (s : Sg) : PQ (f_X12_newOne a1 a2 a3 s) (OkF (fun s9 => s9.1 1 = s.1 1 ∧ ¬ s.1 1 (1920 + a1).toNatClampNeg = a2)) := by
  unfold f_X12_newOne
  refine pq_c (fun _ => pq_if (fun _ => fl_x 6 s (by decide)) (fun c => pq_b (ah_k s) (fun _ s5 k => pq_b (in_k s5) (fun r6 s7 g => ?_))))
  subst g
  have fh : ∀ (a b : Int32) (u : Sg), PQ (f_X12_findHere a b u) (fun _ u' => u' = u) := fun a b u => by
    have lp : ∀ (m : Nat) (v1 v2 v3 : Int32), PQ (f_X12_findHere_b2 m v1 v2 v3 u) (fun _ u' => u' = u) := fun m => by
      induction m with
      | zero => intro v1 v2 v3 r s' e; cases e
      | succ m ih =>
        intro v1 v2 v3
        unfold f_X12_findHere_b2
        refine pq_if (fun _ => pq_s rfl) (fun _ => pq_c (fun _ => pq_b (nh_k u) (fun r2 s3 g => ?_)))
        subst g
        exact pq_if (fun _ => pq_s rfl) (fun _ => ih _ _ _)
    unfold f_X12_findHere
    exact lp BIG a b 0
  refine pq_if (fun _ => fl_x 2 s7 (by decide)) (fun _ => pq_b (fh _ _ s7) (fun r10 s11 g => ?_))
  subst g
  refine pq_if (fun _ => pq_b (fh _ _ s11) (fun r12 s13 g => ?_)) (fun _ => fl_x 3 s11 (by decide))
  subst g
  refine pq_if (fun _ => pq_b (fh _ _ s13) (fun r14 s15 g => ?_)) (fun _ => fl_x 3 s13 (by decide))
  subst g
  refine pq_if (fun _ => pq_b (fh _ _ s15) (fun r16 s17 g => ?_)) (fun _ => fl_x 3 s15 (by decide))
  subst g
  refine pq_if (fun _ => pq_b (nh_k s17) (fun r18 s19 g => pq_c (fun _ => pq_n (fun s21 e => pq_b (ah_k s21) (fun _ s23 l => pq_s (ok_1 ⟨?_, c⟩)))))) (fun _ => fl_x 3 s17 (by decide))
  subst g
  rw [l.1, e]
  exact k.1
theorem nu_b (a1 a2 a3 : Int32) (s : Sg) {p0 : Nat} (h : a1.toNatClampNeg = p0) : PQ (f_X12_number a1 a2 a3 s) (OkF (fun s9 => (∀ p, ¬ p = p0 → s9.1 1 p = s.1 1 p) ∧ a2.toInt ≤ (s9.1 1 p0).toInt ∧ (s9.1 1 p0).toInt ≤ a3.toInt)) := by
  unfold f_X12_number
  refine pq_if (fun _ => pq_if (fun _ => fl_x 4 s (by decide)) (fun c => pq_if (fun d => pq_c (fun _ => pq_n (fun s4 e4 => ?_))) (fun _ => fl_x 4 s (by decide)))) (fun _ => fl_x 2 s (by decide))
  rw [h] at e4
  refine pq_b (ah_k s4) (fun _ s6 g => pq_s (ok_1 ⟨fun p hp => ?_, ?_, ?_⟩))
  · rw [g.1, e4, pI_1, if_neg (fun z => hp z.2)]
  · rw [g.1, e4, q_eq]; exact i_nlt c
  · rw [g.1, e4, q_eq]; exact i_le d
theorem fh_lt (v1 v2 : Int32) (h2 : v2.toInt ≤ 8) (n : Nat) : ∀ (v3 : Int32) (s : Sg), 0 ≤ v3.toInt → v3.toInt ≤ 8 → PQ (f_X12_findHere_b2 n v1 v2 v3 s) (fun r s9 => s9 = s ∧ (r = -1 ∨ (0 ≤ r.toInt ∧ r.toInt < v2.toInt))) := by
  induction n with
  | zero => intro v3 s _ _ r s' e; cases e
  | succ n ih =>
    intro v3 s h3 h4
    unfold f_X12_findHere_b2
    refine pq_if (fun _ => pq_s ⟨rfl, Or.inl rfl⟩) (fun c => pq_c (fun _ => pq_b (nh_k s) (fun r2 s3 g => ?_)))
    have c' := i_nle c
    subst g
    refine pq_if (fun _ => pq_s ⟨rfl, Or.inr (by omega)⟩) (fun _ => ?_)
    have e1 : (1 : Int32).toInt = 1 := rfl
    have a3 : (v3 + 1).toInt = v3.toInt + 1 := i_addx v3 1 (show -2147483648 ≤ v3.toInt + 1 ∧ v3.toInt + 1 ≤ 2147483647 from by omega)
    exact ih (v3 + 1) s3 (by omega) (by omega)
theorem old_b (to : Int32) (s : Sg) (h : (s.1 1 1920).toInt ≤ 8) {p0 : Nat} (hp : to.toNatClampNeg = p0) : PQ (f_X12_oldOne 96 (s.1 1 1920) to s) (OkF (fun s9 => (∀ p, ¬ p = p0 → s9.1 1 p = s.1 1 p) ∧ (0 ≤ (s9.1 1 p0).toInt ∧ (s9.1 1 p0).toInt < (s.1 1 1920).toInt) ∧ f_X12_houseHere s = some (s9.1 1 p0, s) ∧ ¬ s9.1 1 p0 = -1)) := by
  have hk : ∀ {α : Type} (o : Option (α × Sg)), PQ o (fun r s' => o = some (r, s')) := fun o r s' e => e
  unfold f_X12_oldOne
  refine pq_b (pq_and (in_k s) (hk _)) (fun r1 s2 g => ?_)
  obtain ⟨g, e1⟩ := g
  subst g
  refine pq_if (fun _ => fl_x 2 s2 (by decide)) (fun c1 => pq_b (pq_and (fh_lt 96 (s2.1 1 1920) h BIG 0 s2 (by decide) (by decide)) (hk _)) (fun r5 s6 g => pq_c (fun _ => ?_)))
  obtain ⟨⟨g, gv⟩, e5⟩ := g
  subst g
  rw [hp, q_eq]
  refine pq_if (fun _ => fl_x 3 _ (by decide)) (fun c => pq_b (ah_k _) (fun _ s11 k => pq_s (ok_1 ⟨fun p h' => ?_, ?_, ?_, ?_⟩)))
  · rw [k.1, pI_1, if_neg (fun z => h' z.2)]
  · rw [k.1, q_eq]
    exact gv.elim (fun w => absurd w c) id
  · rw [k.1, q_eq]
    unfold f_X12_houseHere
    rw [e1]
    show (if r1 = 0 then _ else bd (f_X12_findHere 96 (s6.1 1 1920) s6) _) = _
    rw [if_neg c1]
    have e5 : f_X12_findHere 96 (s6.1 1 1920) s6 = some (r5, s6) := e5
    rw [e5]
    rfl
  · rw [k.1, q_eq]
    exact c
/-- both ends of a quarrel or a cat: which places change; a cat's ends stand -/
def TwE (v1 v3 : Int32) (p0 : Nat) (s s9 : Sg) : Prop := (∀ p, ¬ p = p0 → ¬ p = p0 + 1 → s9.1 1 p = s.1 1 p) ∧ ((0 ≤ (s9.1 1 p0).toInt ∧ (s9.1 1 p0).toInt < (s.1 1 1920).toInt) ∧ (0 ≤ (s9.1 1 (p0 + 1)).toInt ∧ (s9.1 1 (p0 + 1)).toInt < (s.1 1 1920).toInt)) ∧ (¬ v3 = 0 → bt (s.1 1 1929) (s9.1 1 p0).toInt.toNat = false ∧ bt (s.1 1 1929) (s9.1 1 (p0 + 1)).toInt.toNat = false)
theorem two_65 {Q : Sg → Prop} (k : Int32 → Int32 → Int32 → Int32 → Sg → Option (Int32 × Sg)) (v1 v2 v3 v4 : Int32) (s : Sg) (h8 : (s.1 1 1920).toInt ≤ 8) {p : Nat} (hp : (v1 + v4).toNatClampNeg = p) (hk : ∀ s9, (∀ x, ¬ x = p → s9.1 1 x = s.1 1 x) → (0 ≤ (s9.1 1 p).toInt ∧ (s9.1 1 p).toInt < (s.1 1 1920).toInt) → f_X12_houseHere s = some (s9.1 1 p, s) → ¬ s9.1 1 p = -1 → PQ (k v1 v2 v3 (v4 + 1) s9) (OkF Q)) : PQ (f_X12_twoHouses_b65 k v1 v2 v3 v4 s) (OkF Q) := by
  unfold f_X12_twoHouses_b65
  refine pq_b (old_b _ s h8 hp) (fun r3 s4 w => pq_if (fun c => pq_s ⟨fun _ => w.1 c, fun x => absurd rfl x⟩) (fun c => ?_))
  obtain ⟨w1, w2, w3, w4⟩ := w.2 c
  refine pq_if (fun _ => pq_b (ww_k v2 s4) (fun r5 s6 y => pq_if (fun d => pq_s ⟨fun _ => y.1 d, fun x => absurd rfl x⟩) (fun d => ?_))) (fun _ => hk s4 w1 w2 w3 w4)
  have y := (y.2 d).1
  exact hk s6 (fun x hx => by rw [y]; exact w1 x hx) (by rw [y]; exact w2) (by rw [y]; exact w3) (by rw [y]; exact w4)
theorem two_h {Q : Sg → Prop} (k : Int32 → Int32 → Int32 → Int32 → Sg → Option (Int32 × Sg)) (v1 v2 v3 v4 : Int32) (s : Sg) (h8 : (s.1 1 1920).toInt ≤ 8) {p : Nat} (hp : (v1 + v4).toNatClampNeg = p) (hk : ∀ s9, (∀ x, ¬ x = p → s9.1 1 x = s.1 1 x) → (0 ≤ (s9.1 1 p).toInt ∧ (s9.1 1 p).toInt < (s.1 1 1920).toInt) → (¬ v3 = 0 → bt (s.1 1 1929) (s9.1 1 p).toInt.toNat = false) → PQ (k v1 v2 v3 (v4 + 1) s9) (OkF Q)) : PQ (bd (f_X12_houseHere s) (fun r1 s2 => if r1 = (-1) then f_X12_twoHouses_b65 k v1 v2 v3 v4 s2 else if v3 = 0 then f_X12_twoHouses_b42 k v1 v2 v3 v4 r1 s2 else if (((s2.1 1 1929) >>> (r1 &&& 31)) &&& 1) = 1 then bd (f_X12_fails 5 s2) (fun r10 s11 => ck (r10 = 0 ∨ r10 = 1) (some (r10, s11))) else f_X12_twoHouses_b42 k v1 v2 v3 v4 r1 s2)) (OkF Q) := by
  have hh : PQ (f_X12_houseHere s) (fun r s' => s' = s ∧ f_X12_houseHere s = some (r, s)) := fun r s' e => by
    have q : s' = s := by
      have w : PQ (f_X12_houseHere s) (fun _ s' => s' = s) := by
        unfold f_X12_houseHere
        refine pq_b (in_k s) (fun r1 s2 g => ?_)
        subst g
        exact pq_if (fun _ => pq_s rfl) (fun _ => pq_b (fh_k 96 _ s2 h8) (fun r3 s4 g => pq_s g.1))
      exact w r s' e
    subst q
    exact ⟨rfl, e⟩
  refine pq_b hh (fun r1 s2 g => ?_)
  obtain ⟨g, e1⟩ := g
  subst g
  have n65 : (∀ x : Int32, f_X12_houseHere s2 = some (x, s2) → ¬ x = -1 → ¬ v3 = 0 → bt (s2.1 1 1929) x.toInt.toNat = false) → PQ (f_X12_twoHouses_b65 k v1 v2 v3 v4 s2) (OkF Q) := fun hg => two_65 k v1 v2 v3 v4 s2 h8 hp (fun s9 a b c d => hk s9 a b (fun z => hg _ c d z))
  have n42 : (¬ v3 = 0 → bt (s2.1 1 1929) r1.toInt.toNat = false) → PQ (f_X12_twoHouses_b42 k v1 v2 v3 v4 r1 s2) (OkF Q) := fun hg => by
    have w := n65 (fun x hx _ hz => by
      rw [e1] at hx
      cases hx
      exact hg hz)
    unfold f_X12_twoHouses_b42
    exact pq_if (fun _ => pq_c (fun _ => pq_if (fun _ => fl_x 5 s2 (by decide)) (fun _ => w))) (fun _ => w)
  refine pq_if (fun c => n65 (fun x hx hn _ => ?_)) (fun c => pq_if (fun d => n42 (fun z => absurd d z)) (fun d => pq_if (fun _ => fl_x 5 s2 (by decide)) (fun f => n42 (fun _ => ?_))))
  · rw [e1] at hx
    cases hx
    exact absurd c hn
  · have rv : 0 ≤ r1.toInt ∧ r1.toInt ≤ 7 := by
      have w : PQ (f_X12_houseHere s2) (fun r _ => r = -1 ∨ (0 ≤ r.toInt ∧ r.toInt ≤ 7)) := by
        unfold f_X12_houseHere
        refine pq_b (in_k s2) (fun r1 s3 g => ?_)
        subst g
        exact pq_if (fun _ => pq_s (Or.inl rfl)) (fun _ => pq_b (fh_k 96 _ s3 h8) (fun r3 s4 g => pq_s g.2))
      exact (w r1 s2 e1).elim (fun z => absurd z c) id
    have y := sh1_1 (s2.1 1 1929) r1 (q := r1.toInt.toNat) (by omega) (by omega)
    cases hb : bt (s2.1 1 1929) r1.toInt.toNat with
    | false => rfl
    | true => exact absurd (y.mpr hb) f
theorem two_k (v1 v2 v3 : Int32) (s : Sg) (h8 : (s.1 1 1920).toInt ≤ 8) {p0 : Nat} (hv : v1.toInt = (p0 : Int)) (hp : 1930 ≤ p0 ∧ p0 < 2500) : PQ (f_X12_twoHouses v1 v2 v3 s) (OkF (fun s9 => TwE v1 v3 p0 s s9)) := by
  have e0 : (0 : Int32).toInt = 0 := rfl
  have e1 : ((0 : Int32) + 1).toInt = 1 := rfl
  have b0 : (v1 + 0).toInt = v1.toInt + (0 : Int32).toInt := i_addx _ _ (by omega)
  have b1 : (v1 + (0 + 1)).toInt = v1.toInt + ((0 : Int32) + 1).toInt := i_addx _ _ (by omega)
  have d0 : (v1 + 0).toNatClampNeg = p0 := cl_h (by omega)
  have d1 : (v1 + (0 + 1)).toNatClampNeg = p0 + 1 := cl_h (by omega)
  have key : ∀ m : Nat, PQ (f_X12_twoHouses_b3 m v1 v2 v3 0 s) (OkF (fun s9 => TwE v1 v3 p0 s s9)) := fun m => by
    cases m with
    | zero => intro r s' e; cases e
    | succ m =>
      unfold f_X12_twoHouses_b3
      refine pq_if (fun c => absurd c (by decide)) (fun _ => two_h _ v1 v2 v3 0 s h8 d0 (fun s1 a1 a2 a3 => ?_))
      have n1 : s1.1 1 1920 = s.1 1 1920 := a1 1920 (by omega)
      have n9 : s1.1 1 1929 = s.1 1 1929 := a1 1929 (by omega)
      cases m with
      | zero => intro r s' e; cases e
      | succ m =>
        unfold f_X12_twoHouses_b3
        refine pq_if (fun c => absurd c (by decide)) (fun _ => two_h _ v1 v2 v3 (0 + 1) s1 (by rw [n1]; exact h8) d1 (fun s2 c1 c2 c3 => ?_))
        cases m with
        | zero => intro r s' e; cases e
        | succ m =>
          unfold f_X12_twoHouses_b3
          refine pq_if (fun _ => pq_s (ok_1 ⟨fun p y1 y2 => by rw [c1 p y2, a1 p y1], ⟨by rw [c1 p0 (by omega)]; exact a2, by rw [← n1]; exact c2⟩, fun z => ⟨by rw [c1 p0 (by omega)]; exact a3 z, by rw [← n9]; exact c3 z⟩⟩)) (fun c => absurd (by decide) c)
  unfold f_X12_twoHouses
  exact key BIG
