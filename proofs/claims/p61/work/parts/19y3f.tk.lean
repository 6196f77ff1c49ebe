/-! life: the program that is run, where it goes on, the turns -/
def PgX (X : Nat) (s : Sg) (M : Nat → Int32) : Prop := (s.1 27 6 = 1 ∧ s.1 27 7 = M 11 ∧ (M 11).toInt = (X : Int) ∧ X ≤ 60) ∧ (∀ k : Nat, k < X → (RwR 24 110 s M k ∧ VdR 110 M k) ∧ ((s.1 45 k = 124 ∨ s.1 45 k = 128 ∨ s.1 45 k = 129) → s.1 50 k = M (110 + 6 * k + 4))) ∧ ∃ st : Nat → Int32, NsA (fun k => M (110 + 6 * k)) (fun k => M (110 + 6 * k + 4)) st 0 X
theorem pgx_k {X : Nat} {s s' : Sg} {M M' : Nat → Int32} (h : PgX X s M) (hs : ∀ c, c = 27 ∨ (45 ≤ c ∧ c ≤ 50) → s'.1 c = s.1 c) (hM : ∀ p, (110 ≤ p ∨ PlP p ∨ p = 11) → M' p = M p) : PgX X s' M' := by
  obtain ⟨⟨h1, h2, h3, h4⟩, h5, st, h6⟩ := h
  have m11 := hM 11 (Or.inr (Or.inr rfl))
  have c27 := hs 27 (Or.inl rfl)
  refine ⟨⟨by rw [c27]; exact h1, by rw [c27, m11]; exact h2, by rw [m11]; exact h3, h4⟩, fun k hk => ?_, st, ns_e h6 (fun k _ => ⟨hM _ (Or.inl (by omega)), hM _ (Or.inl (by omega))⟩)⟩
  have w := h5 k hk
  have big : ∀ p, 110 ≤ p → M' p = M p := fun p hp => hM p (Or.inl hp)
  have sm : ∀ p, p < 4 ∨ p = 9 → M' p = M p := fun p hp => hM p (Or.inr (Or.inl (plp_0 (by omega))))
  unfold RwR VdR at w ⊢
  rw [hs (24 + 21) (by omega), hs (24 + 22) (by omega), hs (24 + 23) (by omega), hs (24 + 24) (by omega), hs (24 + 25) (by omega), hs 50 (by omega), big (110 + 6 * k) (by omega), big (110 + 6 * k + 1) (by omega), big (110 + 6 * k + 2) (by omega), big (110 + 6 * k + 3) (by omega), big (110 + 6 * k + 4) (by omega), big (110 + 6 * k + 5) (by omega), sm 0 (by omega), sm 1 (by omega), sm 3 (by omega), sm 9 (by omega)]
  exact w
theorem no_on {st : Nat → Int32} {p : Nat} : ¬ OnA st 0 p := fun z => by
  obtain ⟨d, hd, -⟩ := z
  omega
theorem pg_blk {X : Nat} {s : Sg} {M : Nat → Int32} (h : PgX X s M) {p : Nat} (hp : p < X) (hb : Blk (M (110 + 6 * p))) : ∃ e : Nat, (p < e ∧ e < X) ∧ (M (110 + 6 * p + 4)).toInt = (e : Int) ∧ M (110 + 6 * e) = 26 ∧ (M (110 + 6 * e + 4)).toInt = (p : Int) := by
  obtain ⟨-, -, st, h1, h2, h3, h4, h5⟩ := h
  rcases h2 p hp hb with z | z
  · exact absurd z no_on
  · exact z
theorem pg_end {X : Nat} {s : Sg} {M : Nat → Int32} (h : PgX X s M) {k : Nat} (hk : k < X) (e : M (110 + 6 * k) = 26) : ∃ p : Nat, p < k ∧ (M (110 + 6 * k + 4)).toInt = (p : Int) ∧ Blk (M (110 + 6 * p)) ∧ (M (110 + 6 * p + 4)).toInt = (k : Int) := by
  obtain ⟨-, -, st, h1, h2, h3, h4, h5⟩ := h
  obtain ⟨p, p1, p2, p3, p4, p5⟩ := h4 k hk e
  exact ⟨p, p1, p2, p3, p4⟩
theorem pg_in {X : Nat} {s : Sg} {M : Nat → Int32} (h : PgX X s M) {p q : Nat} (pq : p < q) (hq : q < X) (b1 : Blk (M (110 + 6 * p))) (b2 : Blk (M (110 + 6 * q))) (lt : (q : Int) < (M (110 + 6 * p + 4)).toInt) : (M (110 + 6 * q + 4)).toInt < (M (110 + 6 * p + 4)).toInt := by
  obtain ⟨-, -, st, h1, h2, h3, h4, h5⟩ := h
  exact (h5 p q pq hq b1 b2 no_on lt).2
theorem rw_kd {b B k : Nat} {s : Sg} {M : Nat → Int32} (R : RwR b B s M k) : (s.1 (b + 21) k = 129 ↔ M (B + 6 * k) = 26) ∧ (s.1 (b + 21) k = 128 ↔ M (B + 6 * k) = 25) ∧ (s.1 (b + 21) k = 130 ↔ M (B + 6 * k) = 27) ∧ (s.1 (b + 21) k = 124 ↔ ¬ M (B + 6 * k) < 2400) := by
  unfold RwR RwA at R
  generalize s.1 (b + 21) k = w at R ⊢
  generalize M (B + 6 * k) = m0 at R ⊢
  rcases R with ⟨y, z, -⟩ | ⟨y, z, -⟩ | ⟨y, z, -⟩ | ⟨y, z, -⟩ | ⟨y, z, -⟩ | ⟨y, z⟩ | ⟨y, z, -⟩ | ⟨y, z⟩ | ⟨y, z⟩ | ⟨y, -, ⟨-, z⟩ | ⟨-, z⟩ | ⟨-, -, -, z⟩⟩ <;> subst y <;> subst z <;> decide
theorem blk_of {b B k : Nat} {s : Sg} {M : Nat → Int32} (R : RwR b B s M k) (h : ¬ M (B + 6 * k) < 2400) : Blk (M (B + 6 * k)) := by
  have w := (rw_kd R).2.2.2.mpr h
  unfold RwR RwA at R
  have no : ∀ {z : Int32}, s.1 (b + 21) k = z → ¬ (124 : Int32) = z → False := fun y z => z (w.symm.trans y)
  rcases R with ⟨y, -⟩ | ⟨y, -⟩ | ⟨y, -⟩ | ⟨y, -⟩ | ⟨y, -⟩ | ⟨y, -⟩ | ⟨y, -⟩ | ⟨y, -⟩ | ⟨y, -⟩ | ⟨-, -, ⟨-, z⟩ | ⟨-, z⟩ | ⟨-, -, -, z⟩⟩
  · exact (no y (by decide)).elim
  · exact (no y (by decide)).elim
  · exact (no y (by decide)).elim
  · exact (no y (by decide)).elim
  · exact (no y (by decide)).elim
  · exact (no y (by decide)).elim
  · exact (no y (by decide)).elim
  · exact (no y (by decide)).elim
  · exact (no y (by decide)).elim
  · exact Or.inr (Or.inl z)
  · exact Or.inr (Or.inr (Or.inl z))
  · exact Or.inr (Or.inr (Or.inr z))
/-! the turns of the loops that are open ahead of a row -/
def TnR (c X n : Nat) (s t : Sg) : Prop := ∀ p : Nat, p < X → p < n → t.1 1 (110 + 6 * p) = 25 → (n : Int) ≤ (t.1 1 (110 + 6 * p + 4)).toInt → s.1 c p = t.1 10 p + 1 ∧ 0 ≤ (t.1 10 p).toInt ∧ (t.1 10 p).toInt ≤ 98
theorem tn_c {c X n : Nat} {s t s' t' : Sg} (h : TnR c X n s t) (hs : s'.1 c = s.1 c) (ht : t'.1 10 = t.1 10) (hM : ∀ p, 110 ≤ p → t'.1 1 p = t.1 1 p) : TnR c X n s' t' := fun p p1 p2 p3 p4 => by
  rw [hM _ (by omega)] at p3 p4
  rw [hs, ht]
  exact h p p1 p2 p3 p4
theorem tn_f {c X n : Nat} {s t : Sg} (h : TnR c X n s t) (hn : ¬ t.1 1 (110 + 6 * n) = 25) : TnR c X (n + 1) s t := fun p p1 p2 p3 p4 => by
  have z : ¬ p = n := fun z => hn (by rw [← z]; exact p3)
  exact h p p1 (by omega) p3 (by omega)
theorem tn_l {c X n : Nat} {s t : Sg} (h : TnR c X n s t) {v : Int32} (hv : 1 ≤ v.toInt ∧ v.toInt ≤ 99) : TnR c X (n + 1) (pI s c n v) (pI t 10 n (v - 1)) := fun p p1 p2 p3 p4 => by
  rw [q_nc rfl] at p3 p4
  have e1 : (1 : Int32).toInt = 1 := rfl
  have sb : (v - 1).toInt = v.toInt - (1 : Int32).toInt := i_subx _ _ (by omega)
  have ad : ((v - 1) + 1).toInt = (v - 1).toInt + (1 : Int32).toInt := i_addx _ _ (by omega)
  by_cases z : p = n
  · subst z
    rw [q_eq, q_eq]
    exact ⟨Int32.toInt_inj.mp (by omega), by omega, by omega⟩
  · rw [pI_1, if_neg (fun y => z y.2), pI_1, if_neg (fun y => z y.2)]
    exact h p p1 (by omega) p3 (by omega)
theorem tn_e {c X n : Nat} {s t s' t' : Sg} (h : TnR c X n s t) {p : Nat} (hs : ∀ q, ¬ q = p → s'.1 c q = s.1 c q) (ht : ∀ q, ¬ q = p → t'.1 10 q = t.1 10 q) (h1 : t'.1 1 = t.1 1) (hn : ¬ t.1 1 (110 + 6 * n) = 25) (hp : (t.1 1 (110 + 6 * p + 4)).toInt = (n : Int)) : TnR c X (n + 1) s' t' := fun q q1 q2 q3 q4 => by
  rw [h1] at q3 q4
  have ne : ¬ q = p := fun z => by
    rw [z, hp] at q4
    omega
  have nn : ¬ q = n := fun z => hn (by rw [← z]; exact q3)
  rw [hs q ne, ht q ne]
  exact h q q1 (by omega) q3 (by omega)
theorem tn_b {c X n : Nat} {s t s' t' : Sg} (P : PgX X s (t.1 1)) (h : TnR c X n s t) {p : Nat} (pn : p < n) (hn : n < X) (b : t.1 1 (110 + 6 * p) = 25) (hp : (t.1 1 (110 + 6 * p + 4)).toInt = (n : Int)) (hs : ∀ q, ¬ q = p → s'.1 c q = s.1 c q) (ht : ∀ q, ¬ q = p → t'.1 10 q = t.1 10 q) (h1 : t'.1 1 = t.1 1) (new : s'.1 c p = t'.1 10 p + 1 ∧ 0 ≤ (t'.1 10 p).toInt ∧ (t'.1 10 p).toInt ≤ 98) : TnR c X (p + 1) s' t' := fun q q1 q2 q3 q4 => by
  rw [h1] at q3 q4
  by_cases z : q = p
  · rw [z]; exact new
  · rw [hs q z, ht q z]
    have y := pg_in P (show q < p by omega) (by omega) (Or.inl q3) (Or.inl b) (by omega)
    exact h q q1 (by omega) q3 (by omega)
theorem tn_j {c X n : Nat} {s t : Sg} (P : PgX X s (t.1 1)) (h : TnR c X n s t) (b : Blk (t.1 1 (110 + 6 * n))) (nl : ¬ t.1 1 (110 + 6 * n) = 25) {e : Nat} (he : (t.1 1 (110 + 6 * n + 4)).toInt = (e : Int)) (ne : n < e) (e26 : t.1 1 (110 + 6 * e) = 26) : TnR c X (e + 1) s t := fun q q1 q2 q3 q4 => by
  have qe : ¬ q = e := fun z => by
    rw [z, e26] at q3
    exact absurd q3 (by decide)
  have qn : ¬ q = n := fun z => nl (by rw [← z]; exact q3)
  by_cases z : q < n
  · exact h q q1 z q3 (by omega)
  · have y := pg_in P (show n < q by omega) q1 b (Or.inl q3) (by omega)
    omega
/-! how often the class goes round -/
def GdE (X n : Nat) (a : Int) (t : Sg) : Prop := 0 ≤ a ∧ a ≤ 161 * (t.1 0 30).toInt ∧ (n < X → t.1 1 (110 + 6 * n) = 26 → a + (60 - (n : Int)) ≤ 161 * (t.1 0 30).toInt ∧ ∀ p : Nat, p + 1 = n → t.1 1 (110 + 6 * p) = 25 → a + (60 - (n : Int)) + (t.1 10 p).toInt ≤ 161 * (t.1 0 30).toInt)
theorem gd_new {c X n : Nat} {s t : Sg} {a : Int} (P : PgX X s (t.1 1)) (T : TnR c X n s t) (h0 : 0 ≤ a) (h1 : a + 160 ≤ 161 * (t.1 0 30).toInt) : GdE X n a t := by
  refine ⟨h0, by omega, fun hn _ => ⟨by omega, fun p hp hb => ?_⟩⟩
  obtain ⟨e, ⟨e1, e2⟩, e3, -⟩ := pg_blk P (show p < X by omega) (Or.inl hb)
  have w := T p (by omega) (by omega) hb (by omega)
  omega
theorem gd_f {X n : Nat} {t t' : Sg} {a : Int} (hn : n < X) (hX : X ≤ 60) (e : t.1 1 (110 + 6 * n) = 26) (G : GdE X n a t) (h1 : t'.1 1 = t.1 1) (h30 : t'.1 0 30 = t.1 0 30) : GdE X (n + 1) (a + 1) t' := by
  have g := G.2.2 hn e
  have g0 := G.1
  refine ⟨by omega, by rw [h30]; omega, fun _ _ => ⟨by rw [h30]; omega, fun p hp hb => ?_⟩⟩
  rw [h1, show p = n by omega, e] at hb
  exact absurd hb (by decide)
theorem gd_b {X n p : Nat} {s t t' : Sg} {a : Int} (P : PgX X s (t.1 1)) (hn : n < X) (e : t.1 1 (110 + 6 * n) = 26) (G : GdE X n a t) (pn : p < n) (b : t.1 1 (110 + 6 * p) = 25) (hp : (t.1 1 (110 + 6 * p + 4)).toInt = (n : Int)) (h1 : t'.1 1 = t.1 1) (h30 : t'.1 0 30 = t.1 0 30) (h10 : (t'.1 10 p).toInt = (t.1 10 p).toInt - 1) (pos : 1 ≤ (t.1 10 p).toInt) : GdE X (p + 1) (a + 1) t' := by
  have g := G.2.2 hn e
  have g0 := G.1
  have hX := P.1.2.2.2
  refine ⟨by omega, by rw [h30]; omega, fun p1 e26 => ?_⟩
  rw [h1] at e26
  by_cases z : p + 1 = n
  · have w := g.2 p z b
    refine ⟨by rw [h30]; omega, fun q hq _ => ?_⟩
    have y : q = p := by omega
    rw [y, h30, h10]
    omega
  · exfalso
    obtain ⟨r, r1, r2, r3, r4⟩ := pg_end P p1 e26
    have rp : ¬ r = p := fun y => by
      rw [y] at r4
      omega
    have y := pg_in P (show r < p by omega) (by omega) r3 (Or.inl b) (by omega)
    omega
/-! one program stands for another where it answers -/
def Sb {α : Type} (o o' : Option α) : Prop := ∀ x, o = some x → o' = some x
theorem sb_r {α : Type} {o : Option α} : Sb o o := fun _ h => h
theorem sb_c {α : Type} {c : Prop} [Decidable c] {k o : Option α} (h : c → Sb k o) : Sb (ck c k) o := by
  unfold ck
  by_cases q : c
  · rw [if_pos q]; exact h q
  · rw [if_neg q]; intro x e; cases e
theorem sb_n {α γ : Type} {e : γ} {k : γ → Option α} {o : Option α} (h : ∀ x, x = e → Sb (k x) o) : Sb (nmx e k) o := h e rfl
theorem rq_sb {α β β' : Type} {o o' : Option (β' × Sg)} {K : β' → Sg → Option (β × Sg)} {oC : Option (α × Sg)} {R : α → Sg → β → Sg → Prop} (h : Sb o o') (g : RQ oC (bd o' K) R) : RQ oC (bd o K) R := by
  cases o with
  | none => intro a s b t _ e; cases e
  | some q =>
    rw [h q rfl] at g
    exact g
theorem rw_x {a : Int32} {k : Nat} (ha : a.toInt = (k : Int)) (hk : k ≤ 60) : (110 + 6 * a).toInt = 110 + 6 * (k : Int) ∧ (110 + 6 * a).toNatClampNeg = 110 + 6 * k ∧ ((110 + 6 * a) + 1).toNatClampNeg = 110 + 6 * k + 1 ∧ ((110 + 6 * a) + 4).toNatClampNeg = 110 + 6 * k + 4 := by
  have e6 : (6 : Int32).toInt = 6 := rfl
  have e110 : (110 : Int32).toInt = 110 := rfl
  have e1 : (1 : Int32).toInt = 1 := rfl
  have e4 : (4 : Int32).toInt = 4 := rfl
  have m1 : (6 * a).toInt = 6 * a.toInt := i_mulx 6 a (show -2147483648 ≤ 6 * a.toInt ∧ 6 * a.toInt ≤ 2147483647 from by omega)
  have x1 : (110 + 6 * a).toInt = (110 : Int32).toInt + (6 * a).toInt := i_addx _ _ (by omega)
  have x2 : ((110 + 6 * a) + 1).toInt = (110 + 6 * a).toInt + (1 : Int32).toInt := i_addx _ _ (by omega)
  have x3 : ((110 + 6 * a) + 4).toInt = (110 + 6 * a).toInt + (4 : Int32).toInt := i_addx _ _ (by omega)
  exact ⟨by omega, cl_h (by omega), cl_h (by omega), cl_h (by omega)⟩
/-- the reference at a row that is no END -/
theorem be_0 {v : Int32} {n X : Nat} {t : Sg} (hv : v.toInt = (n : Int)) (hX : (t.1 1 11).toInt = (X : Int)) (h60 : X ≤ 60) (h : n < X → ¬ t.1 1 (110 + 6 * n) = 26) (m : Nat) : PQ (f_X12_behindEnds_b2 m v t) (fun r t' => r = v ∧ t' = t) := by
  cases m with
  | zero => intro r t' e; cases e
  | succ m =>
    unfold f_X12_behindEnds_b2
    refine pq_if (fun _ => pq_s ⟨rfl, rfl⟩) (fun c => pq_c (fun _ => ?_))
    have c := i_nle c
    have nX : n < X := by omega
    rw [(rw_x hv (by omega)).2.1, if_neg (h nX)]
    exact pq_s ⟨rfl, rfl⟩
/-- the reference at an END -/
theorem be_1 {v : Int32} {n p X : Nat} {t : Sg} (hv : v.toInt = (n : Int)) (hX : (t.1 1 11).toInt = (X : Int)) (h60 : X ≤ 60) (nX : n < X) (e26 : t.1 1 (110 + 6 * n) = 26) (hp : (t.1 1 (110 + 6 * n + 4)).toInt = (p : Int)) (pX : p < X) (m : Nat) : (¬ t.1 1 (110 + 6 * p) = 25 → Sb (f_X12_behindEnds_b2 (m + 1) v t) (f_X12_behindEnds_b2 m (v + 1) (pI t 10 p (t.1 10 p - 0)))) ∧ (t.1 1 (110 + 6 * p) = 25 → t.1 10 p ≤ 0 → Sb (f_X12_behindEnds_b2 (m + 1) v t) (f_X12_behindEnds_b2 m (v + 1) (pI t 10 p (t.1 10 p - 0)))) ∧ (t.1 1 (110 + 6 * p) = 25 → ¬ t.1 10 p ≤ 0 → Sb (f_X12_behindEnds_b2 (m + 1) v t) (f_X12_behindEnds_b2 m (t.1 1 (110 + 6 * n + 4) + 1) (pI t 10 p (t.1 10 p - 1)))) := by
  have ix := rw_x hv (by omega)
  have iy := rw_x hp (by omega)
  have cp := cl_h hp
  have hd : ¬ (t.1 1 11) ≤ v := fun z => by
    have z := i_le z
    omega
  have st : ∀ o : Option (Int32 × Sg), Sb (if (t.1 1 (110 + 6 * p)) = 25 then ck (inr (t.1 1 (110 + 6 * n + 4)) 80) (if (t.1 10 (t.1 1 (110 + 6 * n + 4)).toNatClampNeg) ≤ 0 then f_X12_behindEnds_b75 (f_X12_behindEnds_b2 m) v (t.1 1 (110 + 6 * n + 4)) t else f_X12_behindEnds_b76 (f_X12_behindEnds_b2 m) v (t.1 1 (110 + 6 * n + 4)) 1 t) else f_X12_behindEnds_b75 (f_X12_behindEnds_b2 m) v (t.1 1 (110 + 6 * n + 4)) t) o → Sb (f_X12_behindEnds_b2 (m + 1) v t) o := fun o h => by
    unfold f_X12_behindEnds_b2
    rw [if_neg hd]
    refine sb_c (fun _ => ?_)
    rw [ix.2.1, if_pos e26]
    refine sb_c (fun _ => sb_n (fun x3 e3 => sb_c (fun _ => ?_)))
    rw [ix.2.2.2] at e3
    subst e3
    rw [iy.2.1]
    exact h
  have b0 : Sb (f_X12_behindEnds_b75 (f_X12_behindEnds_b2 m) v (t.1 1 (110 + 6 * n + 4)) t) (f_X12_behindEnds_b2 m (v + 1) (pI t 10 p (t.1 10 p - 0))) := by
    unfold f_X12_behindEnds_b75 f_X12_behindEnds_b76 f_X12_behindEnds_b95
    refine sb_c (fun _ => ?_)
    rw [if_pos rfl]
    refine sb_c (fun _ => sb_n (fun s8 e8 => ?_))
    rw [if_pos rfl, e8, cp]
    exact sb_r
  have b1 : Sb (f_X12_behindEnds_b76 (f_X12_behindEnds_b2 m) v (t.1 1 (110 + 6 * n + 4)) 1 t) (f_X12_behindEnds_b2 m (t.1 1 (110 + 6 * n + 4) + 1) (pI t 10 p (t.1 10 p - 1))) := by
    unfold f_X12_behindEnds_b76 f_X12_behindEnds_b95
    refine sb_c (fun _ => ?_)
    rw [if_neg (by decide)]
    refine sb_c (fun _ => sb_n (fun s8 e8 => ?_))
    rw [if_neg (by decide), e8, cp]
    exact sb_r
  refine ⟨fun h => st _ ?_, fun h g => st _ ?_, fun h g => st _ ?_⟩
  · rw [if_neg h]; exact b0
  · rw [if_pos h]
    refine sb_c (fun _ => ?_)
    rw [cp, if_pos g]
    exact b0
  · rw [if_pos h]
    refine sb_c (fun _ => ?_)
    rw [cp, if_neg g]
    exact b1
/-- the class at an END -/
theorem ce_1 {v : Int32} {n p : Nat} {s : Sg} (hv : v.toInt = (n : Int)) (hp : (s.1 50 n).toInt = (p : Int)) : PQ (f_X3_behindEnd_27 v s) (fun r s' => (¬ s.1 45 p = 128 → r = v + 1 ∧ s' = s) ∧ (s.1 45 p = 128 → s' = pI s 18 p (s.1 18 p - 1) ∧ (s.1 18 p - 1 ≤ 0 → r = v + 1) ∧ (¬ s.1 18 p - 1 ≤ 0 → r = s.1 50 n + 1))) := by
  unfold f_X3_behindEnd_27
  refine pq_c (fun _ => ?_)
  rw [cl_h hv]
  refine pq_c (fun _ => ?_)
  rw [cl_h hp]
  refine (pq_if (fun c => pq_n (fun s3 e3 => ?_)) (fun c => pq_s ⟨fun _ => ⟨rfl, rfl⟩, fun z => absurd z c⟩))
  subst e3
  rw [q_eq]
  exact pq_if (fun d => pq_s ⟨fun z => absurd c z, fun _ => ⟨rfl, fun _ => rfl, fun z => absurd d z⟩⟩) (fun d => pq_s ⟨fun z => absurd c z, fun _ => ⟨rfl, fun z => absurd z d, fun _ => rfl⟩⟩)
def LfB (X : Nat) (K : Int) (s t : Sg) : Prop := ((NowG 0 s t ∧ DyE s t) ∧ TlR 0 s t ∧ (GnR (t.1 1) (K + 400 * (t.1 0 30).toInt) ∧ 0 ≤ (t.1 0 30).toInt ∧ (t.1 0 30).toInt ≤ 300)) ∧ PgX X s (t.1 1) ∧ s.1 4 8 = t.1 11 4 ∧ s.1 4 1 = 1
theorem lfb_k {X : Nat} {K : Int} {s t s' t' : Sg} (h : LfB X K s t) (hs : ∀ c, ¬ c = 18 → s'.1 c = s.1 c) (ht : ∀ c, ¬ c = 10 → t'.1 c = t.1 c) : LfB X K s' t' := by
  obtain ⟨⟨⟨h1, h2⟩, h3, h4, h5, h6⟩, h7, h8⟩ := h
  have t0 := ht 0 (by decide)
  have t1 := ht 1 (by decide)
  have t11 := ht 11 (by decide)
  refine ⟨⟨⟨ng_k h1 (fun c hc => hs c (by omega)) (fun k _ => by rw [t1]) (by rw [t0]), ?_⟩, tl_k h3 (fun k _ _ => by rw [hs 4 (by decide)]) t11 (by rw [t0]) (by rw [t0]), ?_⟩, pgx_k h7 (fun c hc => hs c (by omega)) (fun p _ => by rw [t1]), ?_⟩
  · exact dye_k h2 (by rw [hs 26 (by decide)]) (by rw [t1])
  · rw [t0, t1]; exact ⟨h4, h5, h6⟩
  · rw [hs 4 (by decide), t11]; exact h8
/-- the class behind the last row -/
theorem run_e {v v6 : Int32} {s : Sg} (h : s.1 27 7 ≤ v) (m : Nat) : PQ (f_X3_run_25_26_27_b12 m v v6 s) (fun _ s' => s' = s) := by
  cases m with
  | zero => intro r s' e; cases e
  | succ m =>
    unfold f_X3_run_25_26_27_b12
    exact pq_if (fun _ => pq_s rfl) (fun _ => pq_if (fun _ => pq_s rfl) (fun c => absurd h c))
def HdE (X : Nat) (K : Int) (m : Nat) : Prop := ∀ (m1 m2 n : Nat) (v v6 : Int32) (s t : Sg), v.toInt = (n : Int) → n ≤ X → LfB X K s t → TnR 18 X n s t → GdE X n v6.toInt t → RQ (f_X3_run_25_26_27_b12 m v v6 s) (bd (f_X12_behindEnds_b2 m1 v t) (fun r t' => f_X12_lives_b32 m2 r t')) (fun _ s' _ t' => LfB X K s' t')
def HdL (X : Nat) (K : Int) (m : Nat) : Prop := ∀ (m2 n : Nat) (v v6 : Int32) (s t : Sg), v.toInt = (n : Int) → n ≤ X → LfB X K s t → TnR 18 X n s t → (n < X → ¬ t.1 1 (110 + 6 * n) = 26) → 0 ≤ v6.toInt → v6.toInt ≤ 161 * (t.1 0 30).toInt → RQ (f_X3_run_25_26_27_b12 m v v6 s) (f_X12_lives_b32 m2 v t) (fun _ s' _ t' => LfB X K s' t')
theorem hd_e {X : Nat} {K : Int} {m : Nat} (ih : HdE X K m) (L : HdL X K (m + 1)) : HdE X K (m + 1) := fun m1 m2 n v v6 s t hv hn B T G => by
  have hX := B.2.1.1
  have st := B.1.2.2.2
  have e1 : (1 : Int32).toInt = 1 := rfl
  by_cases E : n < X ∧ t.1 1 (110 + 6 * n) = 26
  · obtain ⟨nX, e26⟩ := E
    cases m1 with
    | zero => intro a s' b t' _ e; cases e
    | succ m1 =>
    have P := B.2.1
    obtain ⟨p, p1, p2, p3, p4⟩ := pg_end P nX e26
    have pX : p < X := by omega
    have R := P.2.1 n nX
    have Rp := P.2.1 p pX
    have w45 : s.1 45 n = 129 := (rw_kd R.1.1).1.mpr e26
    have w50 : s.1 50 n = t.1 1 (110 + 6 * n + 4) := R.2 (Or.inr (Or.inr w45))
    have g0 := G.1
    have g1 := G.2.1
    have g2 := G.2.2 nX e26
    have a6 : (v6 + 1).toInt = v6.toInt + (1 : Int32).toInt := i_addx _ _ (by omega)
    have av : (v + 1).toInt = v.toInt + (1 : Int32).toInt := i_addx _ _ (by omega)
    have no25 : ¬ t.1 1 (110 + 6 * n) = 25 := by rw [e26]; decide
    have be := be_1 hv hX.2.2.1 hX.2.2.2 nX e26 p2 pX m1
    have i128 : s.1 45 p = 128 ↔ t.1 1 (110 + 6 * p) = 25 := (rw_kd Rp.1.1).2.1
    have q1 : ∀ x, (pI t 10 p x).1 1 = t.1 1 := fun x => pI_o _ _ _ _ _ (by decide)
    have q30 : ∀ x, (pI t 10 p x).1 0 30 = t.1 0 30 := fun x => q_nc rfl
    have ks : ∀ x c, ¬ c = 18 → (pI s 18 p x).1 c = s.1 c := fun x c hc => pI_o _ _ _ _ _ hc
    have kt : ∀ x c, ¬ c = 10 → (pI t 10 p x).1 c = t.1 c := fun x c hc => pI_o _ _ _ _ _ hc
    have kq : ∀ x q, ¬ q = p → (pI t 10 p x).1 10 q = t.1 10 q := fun x q hq => by rw [pI_1, if_neg (fun z => hq z.2)]
    have kc : ∀ x q, ¬ q = p → (pI s 18 p x).1 18 q = s.1 18 q := fun x q hq => by rw [pI_1, if_neg (fun z => hq z.2)]
    unfold f_X3_run_25_26_27_b12
    refine rq_iC (fun c => ?_) (fun _ => rq_iC (fun c => ?_) (fun _ => rq_cC (fun _ => ?_)))
    · exfalso
      have c := i_le c
      have e : (1000000 : Int32).toInt = 1000000 := rfl
      omega
    · exfalso
      rw [hX.2.1] at c
      have c := i_le c
      omega
    rw [cl_h hv, if_pos w45]
    refine rq_bC (ce_1 hv (by rw [w50]; exact p2)) (fun r4 s5 k => ?_)
    by_cases b25 : t.1 1 (110 + 6 * p) = 25
    · obtain ⟨k1, k2, k3⟩ := k.2 (i128.mpr b25)
      have tn := T p pX p1 b25 (by omega)
      have ee : s.1 18 p - 1 = t.1 10 p := by
        have ad : (t.1 10 p + 1).toInt = (t.1 10 p).toInt + (1 : Int32).toInt := i_addx _ _ (by omega)
        rw [tn.1]
        apply Int32.toInt_inj.mp
        rw [i_subx _ _ (by omega)]
        omega
      rw [ee] at k1 k2 k3
      subst k1
      have sb : (t.1 10 p - 1).toInt = (t.1 10 p).toInt - (1 : Int32).toInt := i_subx _ _ (by omega)
      by_cases z : t.1 10 p ≤ 0
      · rw [k2 z]
        refine rq_sb (be.2.1 b25 z) ?_
        rw [sub0]
        refine ih m1 m2 (n + 1) (v + 1) (v6 + 1) _ _ (by omega) (by omega) (lfb_k B (ks _) (kt _)) (tn_e T (p := p) (kc _) (kq _) (q1 _) no25 p4) ?_
        rw [a6]
        exact gd_f nX hX.2.2.2 e26 G (q1 _) (q30 _)
      · rw [k3 z, w50]
        refine rq_sb (be.2.2 b25 z) ?_
        have z := i_nle z
        have e0 : (0 : Int32).toInt = 0 := rfl
        have ap : (t.1 1 (110 + 6 * n + 4) + 1).toInt = (t.1 1 (110 + 6 * n + 4)).toInt + (1 : Int32).toInt := i_addx _ _ (by omega)
        refine ih m1 m2 (p + 1) _ (v6 + 1) _ _ (by omega) (by omega) (lfb_k B (ks _) (kt _)) (tn_b P T p1 nX b25 p4 (kc _) (kq _) (q1 _) ?_) ?_
        · rw [q_eq, q_eq]
          refine ⟨Int32.toInt_inj.mp ?_, by omega, by omega⟩
          rw [i_addx _ _ (by omega)]
          omega
        · rw [a6]
          exact gd_b P nX e26 G p1 b25 p4 (q1 _) (q30 _) (by rw [q_eq]; exact sb) (by omega)
    · obtain ⟨k1, k2⟩ := k.1 (fun z => b25 (i128.mp z))
      rw [k1, k2]
      refine rq_sb (be.1 b25) ?_
      rw [sub0]
      refine ih m1 m2 (n + 1) (v + 1) (v6 + 1) _ _ (by omega) (by omega) (lfb_k B (fun _ _ => rfl) (kt _)) (tn_e T (p := p) (fun _ _ => rfl) (kq _) (q1 _) no25 p4) ?_
      rw [a6]
      exact gd_f nX hX.2.2.2 e26 G (q1 _) (q30 _)
  · have ne : n < X → ¬ t.1 1 (110 + 6 * n) = 26 := fun a b => E ⟨a, b⟩
    refine rq_bM (be_0 hv hX.2.2.1 hX.2.2.2 ne m1) (fun r t2 k => ?_)
    obtain ⟨k1, k2⟩ := k
    rw [k1, k2]
    exact L m2 n v v6 s t hv hn B T ne G.1 G.2.1
/-- the class at an END -/
theorem ce_1z {v : Int32} {n p : Nat} {s : Sg} (hv : v.toInt = (n : Int)) (hp : (s.1 50 n).toInt = (p : Int)) : PQ (f_X3_behindEnd_27_5 v s) (fun r s' => (¬ s.1 45 p = 128 → r = v + 1 ∧ s' = s) ∧ (s.1 45 p = 128 → s' = pI s 19 p (s.1 19 p - 1) ∧ (s.1 19 p - 1 ≤ 0 → r = v + 1) ∧ (¬ s.1 19 p - 1 ≤ 0 → r = s.1 50 n + 1))) := by
  unfold f_X3_behindEnd_27_5
  refine pq_c (fun _ => ?_)
  rw [cl_h hv]
  refine pq_c (fun _ => ?_)
  rw [cl_h hp]
  refine (pq_if (fun c => pq_n (fun s3 e3 => ?_)) (fun c => pq_s ⟨fun _ => ⟨rfl, rfl⟩, fun z => absurd z c⟩))
  subst e3
  rw [q_eq]
  exact pq_if (fun d => pq_s ⟨fun z => absurd c z, fun _ => ⟨rfl, fun _ => rfl, fun z => absurd d z⟩⟩) (fun d => pq_s ⟨fun z => absurd c z, fun _ => ⟨rfl, fun z => absurd z d, fun _ => rfl⟩⟩)
def LfBz (X : Nat) (K : Int) (s t : Sg) : Prop := ((NowG 27 s t ∧ DyEz s t) ∧ TlRz 0 s t ∧ (GnR (t.1 1) (K + 400 * (t.1 0 30).toInt) ∧ 0 ≤ (t.1 0 30).toInt ∧ (t.1 0 30).toInt ≤ 300)) ∧ PgX X s (t.1 1) ∧ s.1 5 8 = t.1 11 4 ∧ s.1 5 1 = 1
theorem lfb_kz {X : Nat} {K : Int} {s t s' t' : Sg} (h : LfBz X K s t) (hs : ∀ c, ¬ c = 19 → s'.1 c = s.1 c) (ht : ∀ c, ¬ c = 10 → t'.1 c = t.1 c) : LfBz X K s' t' := by
  obtain ⟨⟨⟨h1, h2⟩, h3, h4, h5, h6⟩, h7, h8⟩ := h
  have t0 := ht 0 (by decide)
  have t1 := ht 1 (by decide)
  have t11 := ht 11 (by decide)
  refine ⟨⟨⟨ng_k h1 (fun c hc => hs c (by omega)) (fun k _ => by rw [t1]) (by rw [t0]), ?_⟩, tl_kz h3 (fun k _ _ => by rw [hs 5 (by decide)]) t11 (by rw [t0]) (by rw [t0]), ?_⟩, pgx_k h7 (fun c hc => hs c (by omega)) (fun p _ => by rw [t1]), ?_⟩
  · exact dye_kz h2 (by rw [hs 53 (by decide)]) (by rw [t1])
  · rw [t0, t1]; exact ⟨h4, h5, h6⟩
  · rw [hs 5 (by decide), t11]; exact h8
/-- the class behind the last row -/
theorem run_ez {v v6 : Int32} {s : Sg} (h : s.1 27 7 ≤ v) (m : Nat) : PQ (f_X3_run_25_53_27_5_b12 m v v6 s) (fun _ s' => s' = s) := by
  cases m with
  | zero => intro r s' e; cases e
  | succ m =>
    unfold f_X3_run_25_53_27_5_b12
    exact pq_if (fun _ => pq_s rfl) (fun _ => pq_if (fun _ => pq_s rfl) (fun c => absurd h c))
def HdEz (X : Nat) (K : Int) (m : Nat) : Prop := ∀ (m1 m2 n : Nat) (v v6 : Int32) (s t : Sg), v.toInt = (n : Int) → n ≤ X → LfBz X K s t → TnR 19 X n s t → GdE X n v6.toInt t → RQ (f_X3_run_25_53_27_5_b12 m v v6 s) (bd (f_X12_behindEnds_b2 m1 v t) (fun r t' => f_X12_lives_b32 m2 r t')) (fun _ s' _ t' => LfBz X K s' t')
def HdLz (X : Nat) (K : Int) (m : Nat) : Prop := ∀ (m2 n : Nat) (v v6 : Int32) (s t : Sg), v.toInt = (n : Int) → n ≤ X → LfBz X K s t → TnR 19 X n s t → (n < X → ¬ t.1 1 (110 + 6 * n) = 26) → 0 ≤ v6.toInt → v6.toInt ≤ 161 * (t.1 0 30).toInt → RQ (f_X3_run_25_53_27_5_b12 m v v6 s) (f_X12_lives_b32 m2 v t) (fun _ s' _ t' => LfBz X K s' t')
theorem hd_ez {X : Nat} {K : Int} {m : Nat} (ih : HdEz X K m) (L : HdLz X K (m + 1)) : HdEz X K (m + 1) := fun m1 m2 n v v6 s t hv hn B T G => by
  have hX := B.2.1.1
  have st := B.1.2.2.2
  have e1 : (1 : Int32).toInt = 1 := rfl
  by_cases E : n < X ∧ t.1 1 (110 + 6 * n) = 26
  · obtain ⟨nX, e26⟩ := E
    cases m1 with
    | zero => intro a s' b t' _ e; cases e
    | succ m1 =>
    have P := B.2.1
    obtain ⟨p, p1, p2, p3, p4⟩ := pg_end P nX e26
    have pX : p < X := by omega
    have R := P.2.1 n nX
    have Rp := P.2.1 p pX
    have w45 : s.1 45 n = 129 := (rw_kd R.1.1).1.mpr e26
    have w50 : s.1 50 n = t.1 1 (110 + 6 * n + 4) := R.2 (Or.inr (Or.inr w45))
    have g0 := G.1
    have g1 := G.2.1
    have g2 := G.2.2 nX e26
    have a6 : (v6 + 1).toInt = v6.toInt + (1 : Int32).toInt := i_addx _ _ (by omega)
    have av : (v + 1).toInt = v.toInt + (1 : Int32).toInt := i_addx _ _ (by omega)
    have no25 : ¬ t.1 1 (110 + 6 * n) = 25 := by rw [e26]; decide
    have be := be_1 hv hX.2.2.1 hX.2.2.2 nX e26 p2 pX m1
    have i128 : s.1 45 p = 128 ↔ t.1 1 (110 + 6 * p) = 25 := (rw_kd Rp.1.1).2.1
    have q1 : ∀ x, (pI t 10 p x).1 1 = t.1 1 := fun x => pI_o _ _ _ _ _ (by decide)
    have q30 : ∀ x, (pI t 10 p x).1 0 30 = t.1 0 30 := fun x => q_nc rfl
    have ks : ∀ x c, ¬ c = 19 → (pI s 19 p x).1 c = s.1 c := fun x c hc => pI_o _ _ _ _ _ hc
    have kt : ∀ x c, ¬ c = 10 → (pI t 10 p x).1 c = t.1 c := fun x c hc => pI_o _ _ _ _ _ hc
    have kq : ∀ x q, ¬ q = p → (pI t 10 p x).1 10 q = t.1 10 q := fun x q hq => by rw [pI_1, if_neg (fun z => hq z.2)]
    have kc : ∀ x q, ¬ q = p → (pI s 19 p x).1 19 q = s.1 19 q := fun x q hq => by rw [pI_1, if_neg (fun z => hq z.2)]
    unfold f_X3_run_25_53_27_5_b12
    refine rq_iC (fun c => ?_) (fun _ => rq_iC (fun c => ?_) (fun _ => rq_cC (fun _ => ?_)))
    · exfalso
      have c := i_le c
      have e : (1000000 : Int32).toInt = 1000000 := rfl
      omega
    · exfalso
      rw [hX.2.1] at c
      have c := i_le c
      omega
    rw [cl_h hv, if_pos w45]
    refine rq_bC (ce_1z hv (by rw [w50]; exact p2)) (fun r4 s5 k => ?_)
    by_cases b25 : t.1 1 (110 + 6 * p) = 25
    · obtain ⟨k1, k2, k3⟩ := k.2 (i128.mpr b25)
      have tn := T p pX p1 b25 (by omega)
      have ee : s.1 19 p - 1 = t.1 10 p := by
        have ad : (t.1 10 p + 1).toInt = (t.1 10 p).toInt + (1 : Int32).toInt := i_addx _ _ (by omega)
        rw [tn.1]
        apply Int32.toInt_inj.mp
        rw [i_subx _ _ (by omega)]
        omega
      rw [ee] at k1 k2 k3
      subst k1
      have sb : (t.1 10 p - 1).toInt = (t.1 10 p).toInt - (1 : Int32).toInt := i_subx _ _ (by omega)
      by_cases z : t.1 10 p ≤ 0
      · rw [k2 z]
        refine rq_sb (be.2.1 b25 z) ?_
        rw [sub0]
        refine ih m1 m2 (n + 1) (v + 1) (v6 + 1) _ _ (by omega) (by omega) (lfb_kz B (ks _) (kt _)) (tn_e T (p := p) (kc _) (kq _) (q1 _) no25 p4) ?_
        rw [a6]
        exact gd_f nX hX.2.2.2 e26 G (q1 _) (q30 _)
      · rw [k3 z, w50]
        refine rq_sb (be.2.2 b25 z) ?_
        have z := i_nle z
        have e0 : (0 : Int32).toInt = 0 := rfl
        have ap : (t.1 1 (110 + 6 * n + 4) + 1).toInt = (t.1 1 (110 + 6 * n + 4)).toInt + (1 : Int32).toInt := i_addx _ _ (by omega)
        refine ih m1 m2 (p + 1) _ (v6 + 1) _ _ (by omega) (by omega) (lfb_kz B (ks _) (kt _)) (tn_b P T p1 nX b25 p4 (kc _) (kq _) (q1 _) ?_) ?_
        · rw [q_eq, q_eq]
          refine ⟨Int32.toInt_inj.mp ?_, by omega, by omega⟩
          rw [i_addx _ _ (by omega)]
          omega
        · rw [a6]
          exact gd_b P nX e26 G p1 b25 p4 (q1 _) (q30 _) (by rw [q_eq]; exact sb) (by omega)
    · obtain ⟨k1, k2⟩ := k.1 (fun z => b25 (i128.mp z))
      rw [k1, k2]
      refine rq_sb (be.1 b25) ?_
      rw [sub0]
      refine ih m1 m2 (n + 1) (v + 1) (v6 + 1) _ _ (by omega) (by omega) (lfb_kz B (fun _ _ => rfl) (kt _)) (tn_e T (p := p) (fun _ _ => rfl) (kq _) (q1 _) no25 p4) ?_
      rw [a6]
      exact gd_f nX hX.2.2.2 e26 G (q1 _) (q30 _)
  · have ne : n < X → ¬ t.1 1 (110 + 6 * n) = 26 := fun a b => E ⟨a, b⟩
    refine rq_bM (be_0 hv hX.2.2.1 hX.2.2.2 ne m1) (fun r t2 k => ?_)
    obtain ⟨k1, k2⟩ := k
    rw [k1, k2]
    exact L m2 n v v6 s t hv hn B T ne G.1 G.2.1
