/-! bits -/
def bt (x : Int32) (i : Nat) : Bool := x.toBitVec.getLsbD i
theorem bt_ge {x : Int32} {i : Nat} (h : 32 ≤ i) : bt x i = false := BitVec.getLsbD_of_ge _ _ h
theorem bt_ext {x y : Int32} (h : ∀ i, i < 32 → bt x i = bt y i) : x = y := Int32.toBitVec_inj.mp (BitVec.eq_of_getLsbD_eq (fun i hi => h i hi))
theorem bt_or (x y : Int32) (i : Nat) : bt (x ||| y) i = (bt x i || bt y i) := by
  unfold bt
  rw [Int32.toBitVec_or, BitVec.getLsbD_or]
theorem bt_and (x y : Int32) (i : Nat) : bt (x &&& y) i = (bt x i && bt y i) := by
  unfold bt
  rw [Int32.toBitVec_and, BitVec.getLsbD_and]
theorem bt_xor (x y : Int32) (i : Nat) : bt (x ^^^ y) i = (bt x i ^^ bt y i) := by
  unfold bt
  rw [Int32.toBitVec_xor, BitVec.getLsbD_xor]
theorem bt_m1 : ∀ i, i < 32 → bt (-1) i = true := by decide
theorem bt_0 (i : Nat) : bt 0 i = false := by
  by_cases h : i < 32
  · exact (show ∀ i, i < 32 → bt 0 i = false from by decide) i h
  · exact bt_ge (by omega)
set_option maxRecDepth 100000 in
theorem bt_bit' : ∀ q, q < 32 → ∀ i, i < 32 → bt (bitI q) i = decide (i = q) := by decide +kernel
theorem bt_bit {q i : Nat} (hq : q < 32) : bt (bitI q) i = decide (i = q) := by
  by_cases h : i < 32
  · exact bt_bit' q hq i h
  · rw [bt_ge (by omega)]
    exact (decide_eq_false (by omega)).symm
theorem of_nat {v : Int32} {q : Nat} (hv : v.toInt = (q : Int)) (hq : q < 32) : v = Int32.ofNat q := Int32.toInt_inj.mp (by rw [hv, Int32.toInt_ofNat_of_lt (by omega)])
theorem bitI_v {v : Int32} {q : Nat} (hv : v.toInt = (q : Int)) (hq : q < 32) : (1 : Int32) <<< (v &&& 31) = bitI q := by
  rw [of_nat hv hq]
  rfl
theorem shn : ∀ q, q < 32 → ((Int32.ofNat q &&& 31).toBitVec.smod 32).toNat = q := by decide +kernel
theorem one_b : ∀ i, i < 32 → bt 1 i = decide (i = 0) := by decide
/-- a bit asked for, as both sides do it -/
theorem sh1 (x v : Int32) {q : Nat} (hv : v.toInt = (q : Int)) (hq : q < 32) : (x >>> (v &&& 31)) &&& 1 = if bt x q = true then 1 else 0 := by
  apply bt_ext
  intro i hi
  rw [bt_and, one_b i hi]
  by_cases z : i = 0
  · subst z
    have e : bt (x >>> (v &&& 31)) 0 = bt x q := by
      rw [of_nat hv hq]
      unfold bt
      rw [Int32.toBitVec_shiftRight]
      show (x.toBitVec.sshiftRight (((Int32.ofNat q &&& 31).toBitVec.smod 32).toNat)).getLsbD 0 = _
      rw [shn q hq, BitVec.getLsbD_sshiftRight, if_pos (by omega)]
      simp
    rw [e]
    cases h : bt x q with
    | true => rw [if_pos rfl]; decide
    | false => rw [if_neg (by decide)]; decide
  · cases h : bt x q with
    | true => rw [if_pos rfl, one_b i hi]; simp [z]
    | false => rw [if_neg (by decide), bt_0]; simp [z]
theorem sh1_0 (x v : Int32) {q : Nat} (hv : v.toInt = (q : Int)) (hq : q < 32) : ((x >>> (v &&& 31)) &&& 1 = 0) ↔ ¬ bt x q = true := by
  rw [sh1 x v hv hq]
  by_cases h : bt x q = true
  · rw [if_pos h]; simp [h]
  · rw [if_neg h]; simp [h]
theorem sh1_1 (x v : Int32) {q : Nat} (hv : v.toInt = (q : Int)) (hq : q < 32) : ((x >>> (v &&& 31)) &&& 1 = 1) ↔ bt x q = true := by
  rw [sh1 x v hv hq]
  by_cases h : bt x q = true
  · rw [if_pos h]; simp [h]
  · rw [if_neg h]; simp [h]
theorem bt_qat (on ot : Nat → Int32) (h i : Nat) : ∀ n : Nat, n ≤ 32 → bt (qat on ot n h) i = decide (i < n ∧ ((on i).toInt = (h : Int) ∨ (ot i).toInt = (h : Int)))
  | 0, _ => by
    show bt 0 i = _
    rw [bt_0]
    exact (decide_eq_false (fun z => absurd z.1 (Nat.not_lt_zero _))).symm
  | n + 1, hn => by
    have ih := bt_qat on ot h i n (by omega)
    unfold qat
    by_cases c : (on n).toInt = (h : Int) ∨ (ot n).toInt = (h : Int)
    · rw [if_pos c, bt_or, ih, bt_bit (by omega), ← Bool.decide_or]
      apply decide_eq_decide.mpr
      constructor
      · rintro (w | w)
        · exact ⟨by omega, w.2⟩
        · subst w; exact ⟨by omega, c⟩
      · intro w
        by_cases z : i = n
        · exact Or.inr z
        · exact Or.inl ⟨by omega, w.2⟩
    · rw [if_neg c, ih]
      apply decide_eq_decide.mpr
      constructor
      · intro w; exact ⟨by omega, w.2⟩
      · intro w
        by_cases z : i = n
        · subst z; exact absurd w.2 c
        · exact ⟨by omega, w.2⟩
/-! flags and values on both sides -/
def Fl (P : Prop) (r : Int32) : Prop := (r = 1 ∧ P) ∨ (r = 0 ∧ ¬ P)
theorem rq_f {α β : Type} {P P' : Prop} {oC oM : Option (Int32 × Sg)} {s t : Sg} {kC : Int32 → Sg → Option (α × Sg)} {kM : Int32 → Sg → Option (β × Sg)} {R : α → Sg → β → Sg → Prop} (h : PQ oC (fun r s' => s' = s ∧ Fl P r)) (g : PQ oM (fun r t' => t' = t ∧ Fl P' r)) (e : P ↔ P') (y : P → RQ (kC 1 s) (kM 1 t) R) (n : ¬ P → RQ (kC 0 s) (kM 0 t) R) : RQ (bd oC kC) (bd oM kM) R := by
  refine rq_bC h (fun r s' a => rq_bM g (fun r' t' b => ?_))
  obtain ⟨es, a⟩ := a
  obtain ⟨et, b⟩ := b
  subst es; subst et
  rcases a with a | a <;> rcases b with b | b
  · rw [a.1, b.1]; exact y a.2
  · exact absurd (e.mp a.2) b.2
  · exact absurd (e.mpr b.2) a.2
  · rw [a.1, b.1]; exact n a.2
theorem rq_v {α β γ : Type} {oC oM : Option (γ × Sg)} {s t : Sg} {v : γ} {kC : γ → Sg → Option (α × Sg)} {kM : γ → Sg → Option (β × Sg)} {R : α → Sg → β → Sg → Prop} (h : PQ oC (fun r s' => s' = s ∧ r = v)) (g : PQ oM (fun r t' => t' = t ∧ r = v)) (y : RQ (kC v s) (kM v t) R) : RQ (bd oC kC) (bd oM kM) R := by
  refine rq_bC h (fun r s' a => rq_bM g (fun r' t' b => ?_))
  obtain ⟨es, a⟩ := a
  obtain ⟨et, b⟩ := b
  subst es; subst et
  rw [a, b]; exact y
theorem pq_fl {P : Prop} [Decidable P] {Q : Prop} {s : Sg} (e : P ↔ Q) : PQ (if P then some ((1 : Int32), s) else some (0, s)) (fun r s' => s' = s ∧ Fl Q r) := pq_if (fun c => pq_s ⟨rfl, Or.inl ⟨rfl, e.mp c⟩⟩) (fun c => pq_s ⟨rfl, Or.inr ⟨rfl, fun z => c (e.mpr z)⟩⟩)
theorem pq_f0 {P : Prop} [Decidable P] {Q : Prop} {s : Sg} (e : P ↔ ¬ Q) : PQ (if P then some ((0 : Int32), s) else some (1, s)) (fun r s' => s' = s ∧ Fl Q r) := pq_if (fun c => pq_s ⟨rfl, Or.inr ⟨rfl, e.mp c⟩⟩) (fun c => pq_s ⟨rfl, Or.inl ⟨rfl, Classical.byContradiction (fun z => c (e.mpr z))⟩⟩)
/-! the street on both sides: its plan, its ground -/
def PlnR (b : Nat) (s : Sg) (M : Nat → Int32) : Prop := PlanA 0 (s.1 (b + 1)) (s.1 (b + 7)) (s.1 (b + 8)) (s.1 (b + 9)) (s.1 (b + 10)) (s.1 (b + 11)) (s.1 (b + 12)) (s.1 (b + 13)) (s.1 (b + 14)) (s.1 (b + 15)) M
/-- cells of a ground and places of a slot that hold the same -/
def Gp (o c k p : Nat) : Prop := (k < 8 ∧ ((c = 40 + o ∧ p = 16 + 3 * k) ∨ (c = 41 + o ∧ p = 17 + 3 * k) ∨ (c = 42 + o ∧ p = 18 + 3 * k) ∨ (c = 43 + o ∧ p = 44 + 5 * k))) ∨ (k < 4 ∧ c = 44 + o ∧ p = 92 + 3 * k) ∨ (c = 26 + o ∧ ((k = 7 ∧ p = 10) ∨ (k = 8 ∧ p = 12) ∨ (k = 9 ∧ p = 5) ∨ (k = 10 ∧ p = 6) ∨ (k = 11 ∧ p = 7) ∨ (k = 12 ∧ p = 8)))
def GrdT (o : Nat) (s : Sg) (M : Nat → Int32) : Prop := ∀ c k p, Gp o c k p → s.1 c k = M p
def OvR (o : Nat) (s : Sg) (M : Nat → Int32) : Prop := (∀ q, q < 8 → M (43 + 5 * q) = 0 ∨ M (43 + 5 * q) = 1) ∧ (∀ q : Nat, q < 8 → (M 1).toInt ≤ (q : Int) → M (43 + 5 * q) = 0) ∧ ∀ i, i < 32 → bt (s.1 (26 + o) 5) i = decide (i < 8 ∧ M (43 + 5 * i) = 1)
def Rn01 (t : Sg) : Prop := (t.1 1 10 = 0 ∨ t.1 1 10 = 1) ∧ t.1 0 24 = -1
/-- the plan's places -/
def PlP (k : Nat) : Prop := k < 4 ∨ k = 9 ∨ k = 13 ∨ k = 14 ∨ (∃ q, q < 8 ∧ (k = 40 + 5 * q ∨ k = 41 + 5 * q ∨ k = 42 + 5 * q)) ∨ (∃ c, c < 4 ∧ (k = 80 + 3 * c ∨ k = 81 + 3 * c ∨ k = 82 + 3 * c)) ∨ (∃ g, g < 4 ∧ (k = 93 + 3 * g ∨ k = 94 + 3 * g))
/-- what the numbers of a plan are between; a cat's houses stand -/
def PlB (M : Nat → Int32) : Prop := (∀ q : Nat, (q : Int) < (M 1).toInt → 1 ≤ (M (42 + 5 * q)).toInt ∧ (M (42 + 5 * q)).toInt ≤ 99) ∧ (∀ c : Nat, (c : Int) < (M 2).toInt → (1 ≤ (M (82 + 3 * c)).toInt ∧ (M (82 + 3 * c)).toInt ≤ 99) ∧ bt (M 9) (M (80 + 3 * c)).toInt.toNat = false ∧ bt (M 9) (M (81 + 3 * c)).toInt.toNat = false) ∧ (∀ g : Nat, (g : Int) < (M 3).toInt → (1 ≤ (M (93 + 3 * g)).toInt ∧ (M (93 + 3 * g)).toInt ≤ 99) ∧ (0 ≤ (M (94 + 3 * g)).toInt ∧ (M (94 + 3 * g)).toInt ≤ 16)) ∧ (0 ≤ (M 13).toInt ∧ (M 13).toInt ≤ 99) ∧ (∀ h : Nat, (M 0).toInt ≤ (h : Int) → bt (M 9) h = false) ∧ (M 14 = 0 ∨ M 14 = 1)
/-- at a house that is gone nothing lies -/
def Gz (M : Nat → Int32) : Prop := ∀ h, h < 8 → bt (M 9) h = true → M (16 + 3 * h) = 0 ∧ M (17 + 3 * h) = 0 ∧ M (18 + 3 * h) = 0
def NowG (o : Nat) (s t : Sg) : Prop := (PlnR 24 s (t.1 1) ∧ GrdT o s (t.1 1) ∧ OvR o s (t.1 1)) ∧ Rn01 t ∧ PlB (t.1 1) ∧ Gz (t.1 1)
theorem gp_u {o c k p c' k' p' : Nat} (h : Gp o c k p) (g : Gp o c' k' p') : p' = p ↔ c' = c ∧ k' = k := by
  unfold Gp at h g
  omega
def GPl (p : Nat) : Prop := (16 ≤ p ∧ p < 40) ∨ (∃ g, p = 92 + 3 * g) ∨ (∃ q, q < 8 ∧ (p = 43 + 5 * q ∨ p = 44 + 5 * q)) ∨ (4 ≤ p ∧ p ≤ 8) ∨ p = 10 ∨ p = 12
theorem plp_n {p k : Nat} (hp : GPl p) (hk : PlP k) : ¬ k = p := by
  rcases hp with y | ⟨g, y⟩ | ⟨q, y, y'⟩ | y | y | y <;> rcases hk with z | z | z | z | ⟨q', z, z'⟩ | ⟨c', z, z'⟩ | ⟨g', z, z'⟩ <;> omega
theorem plp_q {q : Nat} (h : q < 8) : PlP (40 + 5 * q) ∧ PlP (41 + 5 * q) ∧ PlP (42 + 5 * q) := ⟨Or.inr (Or.inr (Or.inr (Or.inr (Or.inl ⟨q, h, Or.inl rfl⟩)))), Or.inr (Or.inr (Or.inr (Or.inr (Or.inl ⟨q, h, Or.inr (Or.inl rfl)⟩)))), Or.inr (Or.inr (Or.inr (Or.inr (Or.inl ⟨q, h, Or.inr (Or.inr rfl)⟩))))⟩
theorem plp_c {c : Nat} (h : c < 4) : PlP (80 + 3 * c) ∧ PlP (81 + 3 * c) ∧ PlP (82 + 3 * c) := ⟨Or.inr (Or.inr (Or.inr (Or.inr (Or.inr (Or.inl ⟨c, h, Or.inl rfl⟩))))), Or.inr (Or.inr (Or.inr (Or.inr (Or.inr (Or.inl ⟨c, h, Or.inr (Or.inl rfl)⟩))))), Or.inr (Or.inr (Or.inr (Or.inr (Or.inr (Or.inl ⟨c, h, Or.inr (Or.inr rfl)⟩)))))⟩
theorem plp_g {g : Nat} (h : g < 4) : PlP (93 + 3 * g) ∧ PlP (94 + 3 * g) := ⟨Or.inr (Or.inr (Or.inr (Or.inr (Or.inr (Or.inr ⟨g, h, Or.inl rfl⟩))))), Or.inr (Or.inr (Or.inr (Or.inr (Or.inr (Or.inr ⟨g, h, Or.inr rfl⟩)))))⟩
theorem plp_0 {k : Nat} (h : k < 4 ∨ k = 9 ∨ k = 13 ∨ k = 14) : PlP k := by
  unfold PlP
  omega
/-- the plan sees its own places and cells alone -/
theorem pln_g {b d : Nat} {s s' : Sg} {M M' : Nat → Int32} (h : PlnR b s M) (hf : ∀ k, 13 ≤ k → k ≤ 19 → s'.1 (d + 1) k = s.1 (b + 1) k) (hs : ∀ i k, 7 ≤ i → i ≤ 15 → k < (if i ≤ 10 then 8 else 4) → s'.1 (d + i) k = s.1 (b + i) k) (hM : ∀ k, PlP k → M' k = M k) : PlnR d s' M' := by
  have b1 := h.2.1.2.1
  have b2 := h.2.1.2.2.1
  have b3 := h.2.1.2.2.2
  unfold PlnR at h ⊢
  refine plan_x h (fun k k1 k2 => hf k (by omega) (by omega)) (fun k hk => hM k (plp_0 (by omega))) ⟨by rw [hf 17 (by decide) (by decide), hM 9 (plp_0 (by decide))]; exact h.2.2.1.1, by rw [hf 18 (by decide) (by decide), hM 13 (plp_0 (by decide))]; exact h.2.2.1.2.1, by rw [hf 19 (by decide) (by decide), hM 14 (plp_0 (by decide))]; exact h.2.2.1.2.2⟩ (fun q hq => ?_) (fun x hx => hs 10 x (by decide) (by decide) hx) (fun c hc => ?_) (fun g hg => ?_)
  · have q8 : q < 8 := by omega
    have w := plp_q q8
    exact ⟨⟨hs 7 q (by decide) (by decide) q8, hs 8 q (by decide) (by decide) q8, hs 9 q (by decide) (by decide) q8⟩, hM _ w.1, hM _ w.2.1, hM _ w.2.2⟩
  · have c4 : c < 4 := by omega
    have w := plp_c c4
    exact ⟨⟨hs 11 c (by decide) (by decide) c4, hs 12 c (by decide) (by decide) c4, hs 13 c (by decide) (by decide) c4⟩, hM _ w.1, hM _ w.2.1, hM _ w.2.2⟩
  · have g4 : g < 4 := by omega
    have w := plp_g g4
    exact ⟨⟨hs 14 g (by decide) (by decide) g4, hs 15 g (by decide) (by decide) g4⟩, hM _ w.1, hM _ w.2⟩
theorem plb_g {M M' : Nat → Int32} (h : PlB M) (b : (M 1).toInt ≤ 8 ∧ (M 2).toInt ≤ 4 ∧ (M 3).toInt ≤ 4) (hM : ∀ k, PlP k → M' k = M k) : PlB M' := by
  obtain ⟨h1, h2, h3, h4, h5, h6⟩ := h
  unfold PlB
  rw [hM 0 (plp_0 (by decide)), hM 1 (plp_0 (by decide)), hM 2 (plp_0 (by decide)), hM 3 (plp_0 (by decide)), hM 9 (plp_0 (by decide)), hM 13 (plp_0 (by decide)), hM 14 (plp_0 (by decide))]
  refine ⟨fun q hq => ?_, fun c hc => ?_, fun g hg => ?_, h4, h5, h6⟩
  · rw [hM _ (plp_q (by omega)).2.2]
    exact h1 q hq
  · have w := plp_c (show c < 4 by omega)
    rw [hM _ w.1, hM _ w.2.1, hM _ w.2.2]
    exact h2 c hc
  · have w := plp_g (show g < 4 by omega)
    rw [hM _ w.1, hM _ w.2]
    exact h3 g hg
/-- the same comes to a cell of the ground and to its place -/
theorem ng_i {o c k p : Nat} {v : Int32} {s t : Sg} (ho : o = 0 ∨ o = 27) (h : NowG o s t) (g : Gp o c k p) (hv : p = 10 → v = 0 ∨ v = 1) (hz : ∀ x, x < 8 → (p = 16 + 3 * x ∨ p = 17 + 3 * x ∨ p = 18 + 3 * x) → bt (t.1 1 9) x = true → v = 0) : NowG o (pI s c k v) (pI t 1 p v) := by
  obtain ⟨⟨h1, h2, h3, h4, h5⟩, h6, h7, h8⟩ := h
  have gc : c = 26 + o ∨ (40 + o ≤ c ∧ c ≤ 44 + o) := by
    unfold Gp at g
    omega
  have gk : c = 26 + o → ¬ k = 5 := by
    unfold Gp at g
    omega
  have gp : GPl p := by
    unfold Gp at g
    unfold GPl
    rcases g with ⟨y, z⟩ | ⟨y, z, w⟩ | ⟨y, z⟩
    · by_cases x : p = 44 + 5 * k
      · exact Or.inr (Or.inr (Or.inl ⟨k, y, Or.inr x⟩))
      · exact Or.inl (by omega)
    · exact Or.inr (Or.inl ⟨k, w⟩)
    · omega
  have n43 : ∀ q, q < 8 → ¬ 43 + 5 * q = p := by
    unfold Gp at g
    omega
  have n1 : ¬ 1 = p := by
    unfold Gp at g
    omega
  have eM : ∀ x, ¬ x = p → (pI t 1 p v).1 1 x = t.1 1 x := fun x hx => by rw [pI_1, if_neg (fun z => hx z.2)]
  have pM : ∀ k, PlP k → (pI t 1 p v).1 1 k = t.1 1 k := fun k hk => eM k (plp_n gp hk)
  refine ⟨⟨pln_g h1 (fun k _ _ => by rw [pI_o _ _ _ _ _ (by omega)]) (fun i k _ _ _ => by rw [pI_o _ _ _ _ _ (by omega)]) pM, fun c' k' p' g' => ?_, fun q hq => ?_, fun q hq hQ => ?_, fun i hi => ?_⟩, ?_, plb_g h7 ⟨h1.2.1.2.1.2, h1.2.1.2.2.1.2, h1.2.1.2.2.2.2⟩ pM, fun x hx hb => ?_⟩
  · have u := gp_u g g'
    by_cases z : p' = p
    · rw [pI_1, if_pos (u.mp z), z, q_eq]
    · rw [pI_1, if_neg (fun y => z (u.mpr y)), eM p' z]
      exact h2 c' k' p' g'
  · rw [eM _ (n43 q hq)]; exact h3 q hq
  · rw [eM 1 n1] at hQ
    rw [eM _ (n43 q hq)]; exact h4 q hq hQ
  · have e : (pI s c k v).1 (26 + o) 5 = s.1 (26 + o) 5 := by
      rw [pI_1, if_neg (fun z => gk z.1.symm z.2.symm)]
    rw [e, h5 i hi]
    apply decide_eq_decide.mpr
    constructor
    · intro w; exact ⟨w.1, by rw [eM _ (n43 i w.1)]; exact w.2⟩
    · intro w
      have y := w.2
      rw [eM _ (n43 i w.1)] at y
      exact ⟨w.1, y⟩
  · unfold Rn01
    rw [show (pI t 1 p v).1 0 24 = t.1 0 24 from q_nc rfl]
    refine ⟨?_, h6.2⟩
    by_cases z : p = 10
    · subst z
      rw [q_eq]
      exact hv rfl
    · rw [eM 10 (fun y => z y.symm)]
      exact h6.1
  · rw [pM 9 (plp_0 (by decide))] at hb
    have w := h8 x hx hb
    have y : ∀ j, j = 16 + 3 * x ∨ j = 17 + 3 * x ∨ j = 18 + 3 * x → t.1 1 j = 0 → (pI t 1 p v).1 1 j = 0 := fun j hj hz0 => by
      by_cases z : j = p
      · rw [z, q_eq]
        exact hz x hx (by omega) hb
      · rw [eM j z]; exact hz0
    exact ⟨y _ (by omega) w.1, y _ (by omega) w.2.1, y _ (by omega) w.2.2⟩
/-- cells that the ground and the plan don't have -/
theorem ng_k {o : Nat} {s t s' t' : Sg} (h : NowG o s t) (hs : ∀ c, (c = 25 ∨ (31 ≤ c ∧ c ≤ 39) ∨ c = 26 + o ∨ (40 + o ≤ c ∧ c ≤ 44 + o)) → s'.1 c = s.1 c) (ht : ∀ k, k < 110 → t'.1 1 k = t.1 1 k) (h24 : t'.1 0 24 = t.1 0 24) : NowG o s' t' := by
  obtain ⟨⟨h1, h2, h3, h4, h5⟩, h6, h7, h8⟩ := h
  have pM : ∀ k, PlP k → t'.1 1 k = t.1 1 k := fun k hk => ht k (by
    rcases hk with z | z | z | z | ⟨q', z, z'⟩ | ⟨c', z, z'⟩ | ⟨g', z, z'⟩ <;> omega)
  refine ⟨⟨pln_g h1 (fun k _ _ => by rw [hs _ (by omega)]) (fun i k _ _ _ => by rw [hs _ (by omega)]) pM, fun c k p g => ?_, fun q hq => ?_, fun q hq hQ => ?_, fun i hi => ?_⟩, ?_, plb_g h7 ⟨h1.2.1.2.1.2, h1.2.1.2.2.1.2, h1.2.1.2.2.2.2⟩ pM, fun x hx hb => ?_⟩
  · have a := h2 c k p g
    unfold Gp at g
    rw [hs c (by omega), ht p (by omega)]
    exact a
  · rw [ht _ (by omega)]; exact h3 q hq
  · rw [ht 1 (by decide)] at hQ
    rw [ht _ (by omega)]; exact h4 q hq hQ
  · rw [hs (26 + o) (by omega), h5 i hi]
    apply decide_eq_decide.mpr
    constructor
    · intro w; exact ⟨w.1, by rw [ht _ (by omega)]; exact w.2⟩
    · intro w
      have y := w.2
      rw [ht _ (by omega)] at y
      exact ⟨w.1, y⟩
  · unfold Rn01
    rw [ht 10 (by decide), h24]
    exact h6
  · rw [ht 9 (by decide)] at hb
    rw [ht _ (by omega), ht _ (by omega), ht _ (by omega)]
    exact h8 x hx hb
theorem e13_ {o : Nat} {s t : Sg} (H : NowG o s t) : s.1 25 13 = t.1 1 0 := Int32.toInt_inj.mp (by
  have h : (s.1 25 13).toInt = (t.1 1 0).toInt + 0 := H.1.1.1.1
  omega)
