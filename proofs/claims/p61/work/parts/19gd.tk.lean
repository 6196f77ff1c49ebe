/-! days: both readers, a row in work -/
theorem st_all {n : Nat} {sC sM s t : Sg} (w : StT n sC sM s t) : (∀ c, c < 160 → ¬ c = 0 → ¬ c = 7 → s.1 c = sC.1 c ∧ s.2 c = sC.2 c) ∧ (∀ c, c < 20 → ¬ c = 0 → t.1 c = sM.1 c ∧ t.2 c = sM.2 c) ∧ (∀ k, ¬ (12 ≤ k ∧ k ≤ 15) → t.1 0 k = sM.1 0 k) := by
  obtain ⟨-, f, g, -⟩ := w
  refine ⟨fun c h1 h2 h3 => ?_, fun c h1 h2 => ?_, fun k hk => ?_⟩
  · have b : ∀ k, LTC.testBit (cC c k) = false := fun k => by
      unfold cC
      rw [if_neg h2, if_neg h3]
      by_cases a : c = 52
      · rw [if_pos a]; exact b200 (by decide) k
      · rw [if_neg a]
        by_cases a : c = 54
        · rw [if_pos a, show 212 + k = 190 + (22 + k) by omega]; exact b200 (by decide) _
        · rw [if_neg a]
          by_cases a : c = 9
          · rw [if_pos a, show 224 + k = 190 + (34 + k) by omega]; exact b200 (by decide) _
          · rw [if_neg a]
            exact (show ∀ c, c < 160 → LTC.testBit c = false from by decide +kernel) c h1
    exact ⟨funext fun k => (f c k (b k)).1, funext fun k => (f c k (b k)).2⟩
  · have b : ∀ k, LTM.testBit (cdN c k) = false := fun k => by
      unfold cdN
      rw [if_neg h2]
      exact ltm_b c h1
    exact ⟨funext fun k => (g c k (b k)).1, funext fun k => (g c k (b k)).2⟩
  · refine (g 0 k ?_).1
    show LTM.testBit (20 + k) = false
    by_cases a : 20 + k < 40
    · exact (show ∀ m, m < 40 → ¬ (32 ≤ m ∧ m ≤ 35) → LTM.testBit m = false from by decide) (20 + k) a (by omega)
    · exact Nat.testBit_lt_two_pow (Nat.lt_of_lt_of_le (by decide : LTM < 2 ^ 40) (Nat.pow_le_pow_right (by decide) (by omega)))
theorem nu_all {n : Nat} {lo hi : Int} {p : Nat} {sC sM s t : Sg} (w : NuT n lo hi p sC sM s t) : (∀ c, c < 160 → ¬ c = 0 → ¬ c = 7 → s.1 c = sC.1 c ∧ s.2 c = sC.2 c) ∧ (∀ c, c < 20 → ¬ c = 0 → ¬ c = 1 → t.1 c = sM.1 c) ∧ (∀ c, c < 20 → ¬ c = 0 → ¬ c = 1 → t.2 c = sM.2 c) ∧ (∀ k, ¬ (12 ≤ k ∧ k ≤ 15) → t.1 0 k = sM.1 0 k) := by
  obtain ⟨-, f, g, -⟩ := w
  have gb : ∀ c k, c < 20 → ¬ c = 0 → ¬ c = 1 → LTN.testBit (cdN c k) = false := fun c k h1 h2 h3 => by
    unfold cdN
    rw [if_neg h2]
    exact (show ∀ c, c < 20 → ¬ c = 1 → LTN.testBit c = false from by decide) c h1 h3
  refine ⟨fun c h1 h2 h3 => ?_, fun c h1 h2 h3 => funext fun k => (g c k (gb c k h1 h2 h3)).1, fun c h1 h2 h3 => funext fun k => (g c k (gb c k h1 h2 h3)).2, fun k hk => ?_⟩
  · have b : ∀ k, LTD.testBit (cC c k) = false := fun k => by
      unfold cC
      rw [if_neg h2, if_neg h3]
      by_cases a : c = 52
      · rw [if_pos a]; exact b200 (by decide) k
      · rw [if_neg a]
        by_cases a : c = 54
        · rw [if_pos a, show 212 + k = 190 + (22 + k) by omega]; exact b200 (by decide) _
        · rw [if_neg a]
          by_cases a : c = 9
          · rw [if_pos a, show 224 + k = 190 + (34 + k) by omega]; exact b200 (by decide) _
          · rw [if_neg a]
            exact (show ∀ c, c < 160 → LTD.testBit c = false from by decide +kernel) c h1
    exact ⟨funext fun k => (f c k (b k)).1, funext fun k => (f c k (b k)).2⟩
  · refine (g 0 k ?_).1
    show LTN.testBit (20 + k) = false
    by_cases a : 20 + k < 40
    · exact (show ∀ m, m < 40 → 20 ≤ m → ¬ (32 ≤ m ∧ m ≤ 35) → LTN.testBit m = false from by decide) (20 + k) a (by omega) (by omega)
    · exact Nat.testBit_lt_two_pow (Nat.lt_of_lt_of_le (by decide : LTN < 2 ^ 40) (Nat.pow_le_pow_right (by decide) (by omega)))
/-- blocks: what stands on the stack, what is closed, how they nest -/
def Blk (m : Int32) : Prop := m = 25 ∨ m = 2428 ∨ m = 2429 ∨ m = 2430
def OnA (st : Nat → Int32) (dp : Int) (k : Nat) : Prop := ∃ d : Nat, (d : Int) < dp ∧ (st d).toInt = (k : Int)
def NsA (kd pa st : Nat → Int32) (dp : Int) (X : Nat) : Prop := (∀ i j : Nat, i < j → (j : Int) < dp → (st i).toInt < (st j).toInt) ∧ (∀ k, k < X → Blk (kd k) → OnA st dp k ∨ ∃ e : Nat, (k < e ∧ e < X) ∧ (pa k).toInt = (e : Int) ∧ kd e = 26 ∧ (pa e).toInt = (k : Int)) ∧ (∀ d : Nat, (d : Int) < dp → ∃ k : Nat, k < X ∧ (st d).toInt = (k : Int) ∧ Blk (kd k)) ∧ (∀ k, k < X → kd k = 26 → ∃ p : Nat, p < k ∧ (pa k).toInt = (p : Int) ∧ Blk (kd p) ∧ (pa p).toInt = (k : Int) ∧ ¬ OnA st dp p) ∧ (∀ p q : Nat, p < q → q < X → Blk (kd p) → Blk (kd q) → ¬ OnA st dp p → (q : Int) < (pa p).toInt → ¬ OnA st dp q ∧ (pa q).toInt < (pa p).toInt)
theorem ns_e {kd pa kd' pa' st : Nat → Int32} {dp : Int} {X : Nat} (h : NsA kd pa st dp X) (hk : ∀ k, k < X → kd' k = kd k ∧ pa' k = pa k) : NsA kd' pa' st dp X := by
  obtain ⟨h1, h2, h3, h4, h5⟩ := h
  refine ⟨h1, fun k k1 hb => ?_, fun d hd => ?_, fun k k1 z => ?_, fun p q pq q1 b1 b2 n lt => ?_⟩
  · rw [(hk k k1).1] at hb
    rcases h2 k k1 hb with z | ⟨y, ⟨z1, z2⟩, z3, z4, z5⟩
    · exact Or.inl z
    · exact Or.inr ⟨y, ⟨z1, z2⟩, by rw [(hk k k1).2]; exact z3, by rw [(hk y z2).1]; exact z4, by rw [(hk y z2).2]; exact z5⟩
  · obtain ⟨k, k1, k2, k3⟩ := h3 d hd
    exact ⟨k, k1, k2, by rw [(hk k k1).1]; exact k3⟩
  · rw [(hk k k1).1] at z
    obtain ⟨p, p1, p2, p3, p4, p5⟩ := h4 k k1 z
    exact ⟨p, p1, by rw [(hk k k1).2]; exact p2, by rw [(hk p (by omega)).1]; exact p3, by rw [(hk p (by omega)).2]; exact p4, p5⟩
  · rw [(hk p (by omega)).1] at b1
    rw [(hk q q1).1] at b2
    rw [(hk p (by omega)).2] at lt
    have w := h5 p q pq q1 b1 b2 n lt
    exact ⟨w.1, by rw [(hk q q1).2, (hk p (by omega)).2]; exact w.2⟩
theorem ns_k {kd pa st : Nat → Int32} {dp : Int} {X : Nat} (h : NsA kd pa st dp X) (nb : ¬ Blk (kd X)) (n26 : ¬ kd X = 26) : NsA kd pa st dp (X + 1) := by
  obtain ⟨h1, h2, h3, h4, h5⟩ := h
  refine ⟨h1, fun k k1 hb => ?_, fun d hd => ?_, fun k k1 z => ?_, fun p q pq q1 b1 b2 n lt => ?_⟩
  · by_cases y : k = X
    · subst y
      exact absurd hb nb
    · rcases h2 k (by omega) hb with z | ⟨y, ⟨z1, z2⟩, z3⟩
      · exact Or.inl z
      · exact Or.inr ⟨y, ⟨z1, by omega⟩, z3⟩
  · obtain ⟨k, k1, k2⟩ := h3 d hd
    exact ⟨k, by omega, k2⟩
  · by_cases y : k = X
    · subst y
      exact absurd z n26
    · exact h4 k (by omega) z
  · by_cases y : q = X
    · subst y
      exact absurd b2 nb
    · exact h5 p q pq (by omega) b1 b2 n lt
theorem blk_n {m : Int32} (h : Blk m) : ¬ m = 26 := by
  rcases h with z | z | z | z <;> subst z <;> decide
theorem ns_b {kd pa st st' : Nat → Int32} {dp : Int} {X D : Nat} {v : Int32} (h : NsA kd pa st dp X) (hb : Blk (kd X)) (hv : v.toInt = (X : Int)) (hD : dp = (D : Int)) (e8 : ∀ d, st' d = if d = D then v else st d) : NsA kd pa st' (dp + 1) (X + 1) := by
  obtain ⟨h1, h2, h3, h4, h5⟩ := h
  have on : ∀ k, k < X → (OnA st' (dp + 1) k ↔ OnA st dp k) := fun k hk => by
    constructor
    · rintro ⟨d, d1, d2⟩
      rw [e8] at d2
      by_cases y : d = D
      · rw [if_pos y] at d2
        omega
      · rw [if_neg y] at d2
        exact ⟨d, by omega, d2⟩
    · rintro ⟨d, d1, d2⟩
      exact ⟨d, by omega, by rw [e8, if_neg (by omega)]; exact d2⟩
  refine ⟨fun i j ij jd => ?_, fun k k1 hb' => ?_, fun d hd => ?_, fun k k1 z => ?_, fun p q pq q1 b1 b2 n lt => ?_⟩
  · rw [e8, e8, if_neg (by omega)]
    by_cases y : j = D
    · rw [if_pos y]
      obtain ⟨k, k1, k2, -⟩ := h3 i (by omega)
      omega
    · rw [if_neg y]
      exact h1 i j ij (by omega)
  · by_cases y : k = X
    · exact Or.inl ⟨D, by omega, by rw [e8, if_pos rfl]; omega⟩
    · rcases h2 k (by omega) hb' with z | ⟨y, ⟨z1, z2⟩, z3⟩
      · exact Or.inl ((on k (by omega)).mpr z)
      · exact Or.inr ⟨y, ⟨z1, by omega⟩, z3⟩
  · rw [e8]
    by_cases y : d = D
    · rw [if_pos y]
      exact ⟨X, by omega, hv, hb⟩
    · rw [if_neg y]
      obtain ⟨k, k1, k2⟩ := h3 d (by omega)
      exact ⟨k, by omega, k2⟩
  · by_cases y : k = X
    · subst y
      exact absurd z (blk_n hb)
    · obtain ⟨p, p1, p2, p3, p4, p5⟩ := h4 k (by omega) z
      exact ⟨p, p1, p2, p3, p4, fun w => p5 ((on p (by omega)).mp w)⟩
  · have n' : ¬ OnA st dp p := fun w => n ((on p (by omega)).mpr w)
    by_cases y : q = X
    · rcases h2 p (by omega) b1 with z | ⟨y', ⟨z1, z2⟩, z3, -⟩
      · exact absurd z n'
      · omega
    · have w := h5 p q pq (by omega) b1 b2 n' lt
      exact ⟨fun u => w.1 ((on q (by omega)).mp u), w.2⟩
theorem ns_p {kd pa kd' pa' st : Nat → Int32} {dp : Int} {X D pp : Nat} (h : NsA kd pa st dp X) (hD : dp = (D : Int) + 1) (hp : (st D).toInt = (pp : Int)) (ek : ∀ k, k < X → kd' k = kd k) (eX : kd' X = 26) (ep : ∀ k, k < X → ¬ k = pp → pa' k = pa k) (ep2 : (pa' pp).toInt = (X : Int)) (ep3 : (pa' X).toInt = (pp : Int)) : NsA kd' pa' st (dp - 1) (X + 1) := by
  obtain ⟨h1, h2, h3, h4, h5⟩ := h
  have nX : ¬ Blk (kd' X) := fun z => blk_n z eX
  have hpb : pp < X ∧ Blk (kd pp) := by
    obtain ⟨k, k1, k2, k3⟩ := h3 D (by omega)
    have : k = pp := by omega
    subst this
    exact ⟨k1, k3⟩
  have sub : ∀ k, OnA st (dp - 1) k → OnA st dp k := fun k => by
    rintro ⟨d, d1, d2⟩
    exact ⟨d, by omega, d2⟩
  have lt_p : ∀ k, OnA st (dp - 1) k → k < pp := fun k => by
    rintro ⟨d, d1, d2⟩
    have := h1 d D (by omega) (by omega)
    omega
  have cases_ : ∀ k, OnA st dp k → k = pp ∨ OnA st (dp - 1) k := fun k => by
    rintro ⟨d, d1, d2⟩
    by_cases y : d = D
    · rw [y] at d2
      exact Or.inl (by omega)
    · exact Or.inr ⟨d, by omega, d2⟩
  have onp : OnA st dp pp := ⟨D, by omega, hp⟩
  refine ⟨fun i j ij jd => h1 i j ij (by omega), fun k k1 hb => ?_, fun d hd => ?_, fun k k1 z => ?_, fun p q pq q1 b1 b2 n lt => ?_⟩
  · by_cases y : k = X
    · subst y
      exact absurd hb nX
    · by_cases y2 : k = pp
      · subst y2
        exact Or.inr ⟨X, ⟨hpb.1, by omega⟩, ep2, eX, ep3⟩
      · rw [ek k (by omega)] at hb
        rcases h2 k (by omega) hb with z | ⟨y', ⟨z1, z2⟩, z3, z4, z5⟩
        · exact Or.inl ((cases_ k z).resolve_left y2)
        · have ne : ¬ y' = pp := fun w => by
            rw [w] at z4
            exact blk_n hpb.2 z4
          exact Or.inr ⟨y', ⟨z1, by omega⟩, by rw [ep k (by omega) y2]; exact z3, by rw [ek y' z2]; exact z4, by rw [ep y' z2 ne]; exact z5⟩
  · obtain ⟨k, k1, k2, k3⟩ := h3 d (by omega)
    exact ⟨k, by omega, k2, by rw [ek k k1]; exact k3⟩
  · by_cases y : k = X
    · subst y
      exact ⟨pp, hpb.1, ep3, by rw [ek pp hpb.1]; exact hpb.2, ep2, fun w => absurd (lt_p pp w) (Nat.lt_irrefl _)⟩
    · rw [ek k (by omega)] at z
      obtain ⟨p, p1, p2, p3, p4, p5⟩ := h4 k (by omega) z
      have n1 : ¬ k = pp := fun w => by
        rw [w] at z
        exact blk_n hpb.2 z
      have n2 : ¬ p = pp := fun w => by
        rw [w] at p5
        exact p5 onp
      exact ⟨p, p1, by rw [ep k (by omega) n1]; exact p2, by rw [ek p (by omega)]; exact p3, by rw [ep p (by omega) n2]; exact p4, fun w => p5 (sub p w)⟩
  · by_cases y : q = X
    · subst y
      exact absurd b2 nX
    · have qX : q < X := by omega
      rw [ek p (by omega)] at b1
      rw [ek q qX] at b2
      by_cases y2 : p = pp
      · subst y2
        have nq : ¬ OnA st dp q := fun w => by
          rcases cases_ q w with z | z
          · omega
          · have := lt_p q z
            omega
        refine ⟨fun w => nq (sub q w), ?_⟩
        rcases h2 q qX b2 with z | ⟨y', ⟨z1, z2⟩, z3, -⟩
        · exact absurd z nq
        · rw [ep q qX (by omega), ep2]
          omega
      · rw [ep p (by omega) y2] at lt
        have n' : ¬ OnA st dp p := fun w => (cases_ p w).elim y2 n
        have w := h5 p q pq qX b1 b2 n' lt
        have nqp : ¬ q = pp := fun u => by
          rw [u] at w
          exact w.1 onp
        exact ⟨fun u => w.1 (sub q u), by rw [ep q qX nqp, ep p (by omega) y2]; exact w.2⟩
def NsR (B X : Nat) (t : Sg) : Prop := NsA (fun k => t.1 1 (B + 6 * k)) (fun k => t.1 1 (B + 6 * k + 4)) (t.1 8) (t.1 0 22).toInt X
theorem ns_c {B X : Nat} {t t' : Sg} (h : NsR B X t) (hM : ∀ k, k < X → t'.1 1 (B + 6 * k) = t.1 1 (B + 6 * k) ∧ t'.1 1 (B + 6 * k + 4) = t.1 1 (B + 6 * k + 4)) (e8 : t'.1 8 = t.1 8) (e22 : t'.1 0 22 = t.1 0 22) : NsR B X t' := by
  unfold NsR at h ⊢
  rw [e8, e22]
  exact ns_e h hM
/-- a row of the days on both sides -/
def RwA (w th nu ho te m0 m1 m2 m3 m5 : Int32) : Prop := (w = 120 ∧ m0 = 19 ∧ th = m1 ∧ nu = m2) ∨ (w = 119 ∧ m0 = 20 ∧ th = m3 ∧ nu = m2 ∧ ho = m1) ∨ (w = 121 ∧ m0 = 21 ∧ th = m1) ∨ (w = 116 ∧ m0 = 4 ∧ nu = m1) ∨ (w = 122 ∧ m0 = 22 ∧ nu = m1) ∨ (w = 123 ∧ m0 = 23) ∨ (w = 128 ∧ m0 = 25 ∧ nu = m1) ∨ (w = 129 ∧ m0 = 26) ∨ (w = 130 ∧ m0 = 27) ∨ (w = 124 ∧ th = m1 ∧ ((te = 125 ∧ m0 = 2428) ∨ (te = 126 ∧ m0 = 2429) ∨ (te = m5 ∧ (te = 60 ∨ te = 62 ∨ te = 61) ∧ nu = m2 ∧ m0 = 2430)))
/-- a row's numbers are in their places -/
def VdA (m0 m1 m2 m3 c0 c1 c3 g : Int32) : Prop := ((m0 = 19 ∨ m0 = 20 ∨ m0 = 21 ∨ m0 = 2430) → (0 ≤ m1.toInt ∧ m1.toInt < c0.toInt) ∧ ¬ bt g m1.toInt.toNat = true) ∧ (m0 = 20 → 0 ≤ m3.toInt ∧ m3.toInt < c3.toInt) ∧ ((m0 = 2428 ∨ m0 = 2429) → 0 ≤ m1.toInt ∧ m1.toInt < c1.toInt) ∧ (m0 = 25 → 1 ≤ m1.toInt ∧ m1.toInt ≤ 99) ∧ ((m0 = 19 ∨ m0 = 20) → 1 ≤ m2.toInt ∧ m2.toInt ≤ 999) ∧ (m0 = 4 → 0 ≤ m1.toInt ∧ m1.toInt ≤ 16) ∧ (m0 = 22 → 0 ≤ m1.toInt ∧ m1.toInt ≤ 99)
def VdR (B : Nat) (M : Nat → Int32) (k : Nat) : Prop := VdA (M (B + 6 * k)) (M (B + 6 * k + 1)) (M (B + 6 * k + 2)) (M (B + 6 * k + 3)) (M 0) (M 1) (M 3) (M 9)
def RwR (b B : Nat) (s : Sg) (M : Nat → Int32) (k : Nat) : Prop := RwA (s.1 (b + 21) k) (s.1 (b + 22) k) (s.1 (b + 23) k) (s.1 (b + 24) k) (s.1 (b + 25) k) (M (B + 6 * k)) (M (B + 6 * k + 1)) (M (B + 6 * k + 2)) (M (B + 6 * k + 3)) (M (B + 6 * k + 5))
/-- the partner of a block that is closed -/
def PaR (s t : Sg) (k : Nat) : Prop := (s.1 72 k = 124 ∨ s.1 72 k = 128 ∨ s.1 72 k = 129) → (∀ d : Nat, (d : Int) < (t.1 0 22).toInt → ¬ (t.1 8 d).toInt = (k : Int)) → s.1 77 k = t.1 1 (2030 + 6 * k + 4)
def DyR (n : Nat) (dd e : Int) (X : Nat) (s t : Sg) : Prop := ((TkRel n s t ∧ t.1 0 18 = 0) ∧ PlnR 24 s (t.1 1) ∧ NmsR 24 s (t.2 2) (t.1 1)) ∧ ((s.1 54 7 = t.1 1 1931 ∧ s.1 54 8 = t.1 0 23 ∧ (s.1 9 4).toInt = (t.1 0 22).toInt + dd ∧ s.1 54 6 = 1) ∧ ((t.1 1 1931).toInt = (X : Int) + e ∧ (t.1 1 1931).toInt + (t.1 0 22).toInt + dd ≤ 2 * (t.1 0 23).toInt) ∧ (0 ≤ (t.1 0 23).toInt ∧ (t.1 0 23).toInt ≤ 30) ∧ (0 ≤ (t.1 0 22).toInt ∧ (t.1 0 22).toInt + dd ≤ 3)) ∧ ((∀ d : Nat, (d : Int) < (t.1 0 22).toInt → s.1 23 d = t.1 8 d ∧ (0 ≤ (t.1 8 d).toInt ∧ (t.1 8 d).toInt < (X : Int))) ∧ (dd = 1 → (s.1 23 (t.1 0 22).toInt.toNat).toInt = (X : Int)) ∧ NsR 2030 X t) ∧ (∀ k, k < X → (RwR 51 2030 s (t.1 1) k ∧ VdR 2030 (t.1 1) k) ∧ PaR s t k)
theorem dy_x {n : Nat} {dd e : Int} {x : Nat} {s t s' t' : Sg} (h : DyR n dd e x s t) (tk : TkRel n s' t') (kC : ∀ c, (c = 9 ∨ (23 ≤ c ∧ c ≤ 39) ∨ c = 54) → s'.1 c = s.1 c) (k28 : s'.2 28 = s.2 28) (kR : ∀ c, 72 ≤ c → c ≤ 77 → ∀ k, k < x → s'.1 c k = s.1 c k) (m2 : t'.2 2 = t.2 2) (m8 : t'.1 8 = t.1 8) (m0 : t'.1 0 18 = t.1 0 18 ∧ t'.1 0 22 = t.1 0 22 ∧ t'.1 0 23 = t.1 0 23) (mM : ∀ p, ¬ (2030 + 6 * x ≤ p ∧ p < 2036 + 6 * x) → t'.1 1 p = t.1 1 p) : DyR n dd e x s' t' := by
  obtain ⟨⟨⟨h1, h2⟩, h3, N, h4, h5⟩, h6, ⟨h7, h9⟩, h8⟩ := h
  have pM : ∀ k, PlP k → t'.1 1 k = t.1 1 k := fun k hk => mM k (by
    rcases hk with z | z | z | z | ⟨q', z, z'⟩ | ⟨c', z, z'⟩ | ⟨g', z, z'⟩ <;> omega)
  refine ⟨⟨⟨tk, m0.1.trans h2⟩, pln_g h3 (fun k _ _ => by rw [kC 25 (by omega)]) (fun i k i1 i2 _ => by rw [kC (24 + i) (by omega)]) pM, N, ?_, ?_⟩, ?_, ⟨fun d hd => ?_, fun hd => ?_, ns_c h9.2 (fun k hk => ⟨mM _ (by omega), mM _ (by omega)⟩) m8 m0.2.1⟩, fun k hk => ⟨⟨?_, ?_⟩, fun w1 w2 => ?_⟩⟩
  · rw [kC 25 (by omega)]; exact h4
  · have ecn : cnM (t'.1 1) = cnM (t.1 1) := by
      funext q
      unfold cnM
      by_cases z : q < 4
      · rw [if_pos z, if_pos z, pM q (plp_0 (Or.inl z))]
      · rw [if_neg z, if_neg z]
    rw [ecn, m2, kC 29 (by omega), kC 30 (by omega)]
    show NmR (s'.2 28) _ _ _ _ _
    rw [k28]
    exact h5
  · rw [kC 54 (by omega), kC 9 (by omega), m0.2.1, m0.2.2, mM 1931 (by omega)]
    exact h6
  · rw [m0.2.1] at hd
    rw [kC 23 (by omega), m8]
    exact h7 d hd
  · rw [m0.2.1, kC 23 (by omega)]
    exact h9.1 hd
  · have w := (h8 k hk).1.1
    unfold RwR at w ⊢
    rw [kR 72 (by decide) (by decide) k hk, kR 73 (by decide) (by decide) k hk, kR 74 (by decide) (by decide) k hk, kR 75 (by decide) (by decide) k hk, kR 76 (by decide) (by decide) k hk, mM (2030 + 6 * k) (by omega), mM (2030 + 6 * k + 1) (by omega), mM (2030 + 6 * k + 2) (by omega), mM (2030 + 6 * k + 3) (by omega), mM (2030 + 6 * k + 5) (by omega)]
    exact w
  · have w := (h8 k hk).1.2
    unfold VdR at w ⊢
    rw [mM (2030 + 6 * k) (by omega), mM (2030 + 6 * k + 1) (by omega), mM (2030 + 6 * k + 2) (by omega), mM (2030 + 6 * k + 3) (by omega), pM 0 (plp_0 (by omega)), pM 1 (plp_0 (by omega)), pM 3 (plp_0 (by omega)), pM 9 (plp_0 (by omega))]
    exact w
  · rw [kR 77 (by decide) (by decide) k hk, mM (2030 + 6 * k + 4) (by omega)]
    rw [kR 72 (by decide) (by decide) k hk] at w1
    rw [m0.2.1, m8] at w2
    exact (h8 k hk).2 w1 w2
/-- the row in work: one cell and its place have changed; or none -/
def Ch (x c j : Nat) (s t s' t' : Sg) : Prop := s'.1 c x = t'.1 1 (2030 + 6 * x + j) ∧ (∀ c', 72 ≤ c' → c' ≤ 77 → ∀ k, ¬ (c' = c ∧ k = x) → s'.1 c' k = s.1 c' k) ∧ (∀ p, ¬ p = 2030 + 6 * x + j → t'.1 1 p = t.1 1 p)
def ChN (s t s' t' : Sg) : Prop := (∀ c', 72 ≤ c' → c' ≤ 77 → s'.1 c' = s.1 c') ∧ t'.1 1 = t.1 1
theorem dy_st {n : Nat} {dd e : Int} {x : Nat} {s t s' t' : Sg} (w : StT n s t s' t') (h : DyR n dd e x s t) : DyR n dd e x s' t' ∧ ChN s t s' t' := by
  obtain ⟨a, b, c⟩ := st_all w
  exact ⟨dy_x h w.1 (fun c' hc => (a c' (by omega) (by omega) (by omega)).1) (a 28 (by decide) (by decide) (by decide)).2 (fun c' h1 h2 k _ => by rw [(a c' (by omega) (by omega) (by omega)).1]) (b 2 (by decide) (by decide)).2 (b 8 (by decide) (by decide)).1 ⟨c 18 (by omega), c 22 (by omega), c 23 (by omega)⟩ (fun p _ => by rw [(b 1 (by decide) (by decide)).1]), fun c' h1 h2 => (a c' (by omega) (by omega) (by omega)).1, (b 1 (by decide) (by decide)).1⟩
/-- a place of the row in work -/
theorem row_p {x j : Nat} {a : Int32} (ha : a.toInt = 2030 + 6 * (x : Int)) (hx : x < 60) (b : Int32) (hb : b.toInt = (j : Int)) (hj : j < 6) : (a + b).toNatClampNeg = 2030 + 6 * x + j := by
  have e : (a + b).toInt = a.toInt + b.toInt := i_addx _ _ (by omega)
  exact cl_h (by omega)
theorem nu_st {n : Nat} {dd e lo hi : Int} {x j : Nat} {s t s2 t2 : Sg} (h : DyR n dd e x s t) (w : NuT n lo hi (2030 + 6 * x + j) s t s2 t2) (hj : j < 6) : (DyR n dd e x (pI s2 74 x (s2.1 7 7)) t2 ∧ Ch x 74 j s t (pI s2 74 x (s2.1 7 7)) t2) ∧ (lo ≤ (t2.1 1 (2030 + 6 * x + j)).toInt ∧ (t2.1 1 (2030 + 6 * x + j)).toInt ≤ hi) ∧ (s.1 7 2).toInt ≤ ((pI s2 74 x (s2.1 7 7)).1 7 4).toInt := by
  obtain ⟨k1, k2, k3, k4⟩ := nu_all w
  have w6 := w.2.2.2.2.2
  have ec : ∀ c, ¬ c = 74 → (pI s2 74 x (s2.1 7 7)).1 c = s2.1 c := fun c hc => pI_o _ _ _ _ _ hc
  refine ⟨⟨?_, ?_⟩, ?_, ?_⟩
  · refine dy_x h ?_ (fun c hc => by rw [ec c (by omega), (k1 c (by omega) (by omega) (by omega)).1]) (k1 28 (by decide) (by decide) (by decide)).2 (fun c h1 h2 k hk => ?_) (k3 2 (by decide) (by decide) (by decide)) (k2 8 (by decide) (by decide) (by decide)) ⟨k4 18 (by omega), k4 22 (by omega), k4 23 (by omega)⟩ (fun p hp => by rw [w6, if_neg (by omega)])
    · exact tk_f (L1 := 2 ^ 74) (L2 := 0) w.1 (fr_x 74 rfl) fr_r (m_and rfl) rfl
    · rw [pI_1, if_neg (fun z => by have := z.2; omega), (k1 c (by omega) (by omega) (by omega)).1]
  · refine ⟨by rw [q_eq, w6, if_pos rfl], fun c h1 h2 k hk => ?_, fun p hp => by rw [w6, if_neg hp]⟩
    rw [pI_1, if_neg hk, (k1 c (by omega) (by omega) (by omega)).1]
  · rw [w6, if_pos rfl]
    exact w.2.2.2.2.1
  · rw [q_nc rfl]
    exact w.2.2.2.1
theorem num_d {n : Nat} {dd e : Int} {x j : Nat} {s t : Sg} (h : DyR n dd e x s t) (a b lo hi : Int32) (ha : a.toInt = (x : Int)) (hb : b.toNatClampNeg = 2030 + 6 * x + j) (hj : j < 6) : RQ (f_X1_takeNumber a lo hi s) (f_X12_number b lo hi t) (Og (fun s' t' => (DyR n dd e x s' t' ∧ Ch x 74 j s t s' t') ∧ (lo.toInt ≤ (t'.1 1 (2030 + 6 * x + j)).toInt ∧ (t'.1 1 (2030 + 6 * x + j)).toInt ≤ hi.toInt) ∧ (s.1 7 2).toInt ≤ (s'.1 7 4).toInt)) := by
  have key : RQ (f_X1_takeNumber a lo hi s) (bd (f_X12_number b lo hi t) (fun r t' => some (r, t'))) (Og (fun s' t' => (DyR n dd e x s' t' ∧ Ch x 74 j s t s' t') ∧ (lo.toInt ≤ (t'.1 1 (2030 + 6 * x + j)).toInt ∧ (t'.1 1 (2030 + 6 * x + j)).toInt ≤ hi.toInt) ∧ (s.1 7 2).toInt ≤ (s'.1 7 4).toInt)) := by
    unfold f_X1_takeNumber
    refine rq_b2 (num_r h.1.1.1 h.1.1.2 lo hi b _ hb) (fun r s2 r' t2 g => ?_)
    rcases g with ⟨z, z', w⟩ | ⟨z, z', w⟩ <;> subst z <;> subst z'
    · refine rq_iC (fun z => absurd z i10) (fun _ => rq_cC (fun _ => rq_nC (fun s4 e4 => rq_s (Or.inl ⟨rfl, rfl, ?_⟩))))
      rw [cl_h ha] at e4
      rw [e4]
      exact nu_st h w hj
    · exact rq_iC (fun _ => rq_s (Or.inr ⟨rfl, rfl, w⟩)) (fun z => absurd rfl z)
  intro r s' r' t' e1 e2
  exact key r s' r' t' e1 (by rw [e2]; rfl)
theorem rq_find {α β : Type} {n : Nat} {dd e : Int} {x q : Nat} {s t : Sg} (h : DyR n dd e x s t) (hk : s.1 7 3 = 1) (hq : q < 4) {kC : Int32 → Sg → Option (α × Sg)} {kM : Int32 → Sg → Option (β × Sg)} {R : α → Sg → β → Sg → Prop} (base many : Int32) (hb : base.toInt = (offN q : Int)) (hm : many = t.1 1 q) (y : ∀ r, (r = -1 ∨ (0 ≤ r.toInt ∧ r.toInt < (t.1 1 q).toInt)) → f_X12_findHere base many t = some (r, t) → RQ (kC r s) (kM r t) R) : RQ (bd (f_X4_numberOf (s.2 7 6) (codN q) s) kC) (bd (f_X12_findHere base many t) kM) R := by
  obtain ⟨⟨⟨h1, h2⟩, h3, N, h4, h5⟩, -⟩ := h
  have bb := h3.2.1
  have c24 := cn_24 bb
  have hN : N ≤ 24 := by
    have := h5.1
    have := c24.1
    omega
  obtain ⟨b, nab, hbn⟩ := here_r h1 hk
  have cq : cnM (t.1 1) q = (t.1 1 q).toInt.toNat := by
    unfold cnM
    rw [if_pos hq]
  have nn : 0 ≤ (t.1 1 q).toInt := by
    have a : q = 0 ∨ q = 1 ∨ q = 2 ∨ q = 3 := by omega
    rcases a with a | a | a | a <;> subst a
    · exact bb.1.1
    · exact bb.2.1.1
    · exact bb.2.2.1.1
    · exact bb.2.2.2.1
  have ob : offN q + cnM (t.1 1) q ≤ 130 := by
    have o0 : offN 0 = 0 := rfl
    have o1 : offN 1 = 8 := rfl
    have o2 : offN 2 = 16 := rfl
    have o3 : offN 3 = 20 := rfl
    have := c24.1
    have a : q = 0 ∨ q = 1 ∨ q = 2 ∨ q = 3 := by omega
    rcases a with a | a | a | a <;> subst a <;> omega
  have fp := fh_p b t hbn (offN q) (cnM (t.1 1) q) ob base many hb (by rw [hm, cq]; omega)
  refine rq_bC (no_p1 (s.2 7 6) (codN q) N s h4 hN) (fun r1 s2 c => rq_bM (pq_and fp (show PQ _ (fun r t' => f_X12_findHere base many t = some (r, t')) from fun r t' e => e)) (fun r2 t2 m => ?_))
  obtain ⟨es, c⟩ := c
  obtain ⟨⟨et, m⟩, e2⟩ := m
  subst es
  have h5' : NmR (s2.2 28) (s2.1 29) (s2.1 30) N (t.2 2) (cnM (t.1 1)) := h5
  have er := fnd_e h5' nab hq c m
  rw [et] at e2 ⊢
  rw [er]
  refine y r2 ?_ e2
  rcases m with ⟨k, m1, m2, m3⟩ | ⟨m1, m2⟩
  · right
    omega
  · exact Or.inl m2
/-- a name's number comes to a cell of the row -/
theorem store_d {n : Nat} {dd e : Int} {x cc j : Nat} {s t : Sg} (h : DyR n dd e x s t) (hc : cc = 73 ∨ cc = 75) (hj : j < 6) (r : Int32) : DyR n dd e x (pI (pI s 7 7 r) cc x r) (pI t 1 (2030 + 6 * x + j) r) ∧ Ch x cc j s t (pI (pI s 7 7 r) cc x r) (pI t 1 (2030 + 6 * x + j) r) := by
  have ec : ∀ c, ¬ c = 7 → ¬ c = cc → (pI (pI s 7 7 r) cc x r).1 c = s.1 c := fun c h1 h2 => by rw [pI_o _ _ _ _ _ h2, pI_o _ _ _ _ _ h1]
  refine ⟨dy_x h ?_ (fun c hc' => ec c (by omega) (by omega)) rfl (fun c h1 h2 k hk => ?_) rfl (pI_o _ _ _ _ _ (by decide)) ⟨q_nc rfl, q_nc rfl, q_nc rfl⟩ (fun p hp => ?_), ?_, fun c h1 h2 k hk => ?_, fun p hp => ?_⟩
  · have t1 : TkRel n (pI s 7 7 r) t := tk_f (L1 := 2 ^ 187) (L2 := 0) h.1.1.1 (fr_x 187 rfl) fr_r (m_and rfl) rfl
    rcases hc with z | z <;> subst z
    · exact tk_f (L1 := 2 ^ 73) (L2 := 2 ^ 1) t1 (fr_x 73 rfl) (fr_x 1 rfl) (m_and rfl) (m_and rfl)
    · exact tk_f (L1 := 2 ^ 75) (L2 := 2 ^ 1) t1 (fr_x 75 rfl) (fr_x 1 rfl) (m_and rfl) (m_and rfl)
  · rw [pI_1, if_neg (fun z => by have := z.2; omega), pI_o _ _ _ _ _ (by omega)]
  · rw [pI_1, if_neg (fun z => by have := z.2; omega)]
  · rw [q_eq, q_eq]
  · rw [pI_1, if_neg hk, pI_o _ _ _ _ _ (by omega)]
  · rw [pI_1, if_neg (fun z => hp z.2)]
theorem fl_w {n : Nat} {s t : Sg} {H : Sg → Sg → Prop} (h : TkRel n s t) (h0 : t.1 0 18 = 0) (a : Int32) (ha : 0 < a.toInt) : RQ (bd (f_X7_wrong a s) (fun r s => if r = 0 then some ((0 : Int32), s) else some (1, s))) (bd (f_X12_fails a t) (fun r t => ck (r = 0 ∨ r = 1) (some (r, t)))) (Og H) :=
  rq_b2 (fails_r h h0 a ha) (fun r s r' t g => by
    rw [g.1]
    exact rq_iC (fun _ => rq_cM (fun _ => rq_s (Or.inr ⟨rfl, g.2.1, g.2.2⟩))) (fun z => absurd rfl z))
/-- the end of both: the number stored, the token passed -/
theorem oldO {to base many r : Int32} {t : Sg} {p : Nat} (hp : to.toNatClampNeg = p) (hn : f_X12_isName_1001 t = some (1, t)) (hf : f_X12_findHere base many t = some (r, t)) : f_X12_oldOne base many to t = ck (inr to 2880) (if r = -1 then bd (f_X12_fails 3 (pI t 1 p r)) (fun r t => ck (r = 0 ∨ r = 1) (some (r, t))) else bd (f_X12_ahead (pI t 1 p r)) (fun _ t => some (1, t))) := by
  unfold f_X12_oldOne
  rw [hn, bd_so]
  show (if (1 : Int32) = 0 then _ else bd (f_X12_findHere base many t) _) = _
  rw [if_neg i10, hf, bd_so]
  subst hp
  rw [q_eq]
theorem ch_n {x c j : Nat} {s t s1 t1 s2 t2 : Sg} (h : Ch x c j s t s1 t1) (g : ChN s1 t1 s2 t2) (h1 : 72 ≤ c) (h2 : c ≤ 77) : Ch x c j s t s2 t2 := ⟨by rw [g.1 c h1 h2, g.2]; exact h.1, fun c' h1 h2 k hk => by rw [g.1 c' h1 h2]; exact h.2.1 c' h1 h2 k hk, fun p hp => by rw [g.2]; exact h.2.2 p hp⟩
theorem t7_d {n : Nat} {dd e : Int} {x : Nat} {s t : Sg} (h : DyR n dd e x s t) (r : Int32) : TkRel n (pI s 7 7 r) t := tk_f (L1 := 2 ^ 187) (L2 := 0) h.1.1.1 (fr_x 187 rfl) fr_r (m_and rfl) rfl
theorem t7m_d {n : Nat} {dd e : Int} {x : Nat} {s t : Sg} (h : DyR n dd e x s t) (r r' : Int32) (p : Nat) : TkRel n (pI s 7 7 r) (pI t 1 p r') := tk_f (L1 := 0) (L2 := 2 ^ 1) (t7_d h r) fr_r (fr_x 1 rfl) rfl (m_and rfl)
theorem h7_d {n : Nat} {dd e : Int} {x : Nat} {s t : Sg} (h : DyR n dd e x s t) (v : Int32) : DyR n dd e x (pI s 7 7 v) t := dy_x h (t7_d h v) (fun c hc => pI_o _ _ _ _ _ (by omega)) rfl (fun c h1 h2 k _ => by rw [pI_o _ _ _ _ _ (by omega)]) rfl rfl ⟨rfl, rfl, rfl⟩ (fun p _ => rfl)
theorem m18_d {p : Nat} {v : Int32} {t : Sg} (h : t.1 0 18 = 0) : (pI t 1 p v).1 0 18 = 0 := by
  rw [pI_1, if_neg (fun z => by have := z.1; omega)]
  exact h
theorem rq_kM {α : Type} {oC : Option (α × Sg)} {B : Option (Int32 × Sg)} {R : α → Sg → Int32 → Sg → Prop} (h : RQ oC B R) : RQ oC (bd B (fun r t => ck (r = 0 ∨ r = 1) (some (r, t)))) R := rq_bM (P := fun r t => B = some (r, t)) (fun r t e => e) (fun r t e => rq_cM (fun _ => by rw [← e]; exact h))
theorem rq_kC {β : Type} {oM : Option (β × Sg)} {B : Option (Int32 × Sg)} {R : Int32 → Sg → β → Sg → Prop} (h : RQ B oM R) : RQ (bd B (fun r s => ck (r = 0 ∨ r = 1) (some (r, s)))) oM R := rq_bC (P := fun r t => B = some (r, t)) (fun r t e => e) (fun r t e => rq_cC (fun _ => by rw [← e]; exact h))
/-- the tail of a name's taking: store, pass on -/
theorem tail_d {n : Nat} {dd e : Int} {x cc j p : Nat} {s t : Sg} (h : DyR n dd e x s t) (hc : cc = 73 ∨ cc = 75) (hj : j < 6) (hp : p = 2030 + 6 * x + j) (a r : Int32) (ha : a.toInt = (x : Int)) : RQ (ck (inr a 60) (nmx (pI (pI s 7 7 r) cc a.toNatClampNeg ((pI s 7 7 r).1 7 7)) (fun s4 => bd (f_X7_advance s4) (fun _ s6 => some ((1 : Int32), s6))))) (bd (f_X12_ahead (pI t 1 p r)) (fun _ t => some ((1 : Int32), t))) (Og (fun s' t' => (DyR n dd e x s' t' ∧ Ch x cc j s t s' t') ∧ t'.1 1 p = r ∧ (s.1 7 2).toInt ≤ (s'.1 7 4).toInt)) := by
  subst hp
  refine rq_cC (fun _ => rq_nC (fun s4 e4 => ?_))
  rw [cl_h ha, q_eq] at e4
  obtain ⟨D, C⟩ := store_d h hc hj r
  rw [← e4] at D C
  refine rq_b2 (adv_s D.1.1.1) (fun _ s6 _ t6 w => rq_s (Or.inl ⟨rfl, rfl, ?_⟩))
  obtain ⟨D6, C6⟩ := dy_st w D
  refine ⟨⟨D6, ch_n C C6 (by omega) (by omega)⟩, by rw [C6.2, q_eq], ?_⟩
  have e2 : s4.1 7 2 = s.1 7 2 := by rw [e4, pI_1, if_neg (fun z => by have := z.1; omega), pI_1, if_neg (fun z => by have := z.2; omega)]
  rw [← e2]
  exact w.2.2.2
theorem old_d {n : Nat} {dd e : Int} {x q j : Nat} {s t : Sg} (h : DyR n dd e x s t) (hq : q < 4) (hj : j < 6) (a b base many : Int32) (ha : a.toInt = (x : Int)) (hb : b.toNatClampNeg = 2030 + 6 * x + j) (hbase : base.toInt = (offN q : Int)) (hm : many = t.1 1 q) : RQ (bd (f_X7_findName_25 (codN q) s) (fun r1 s2 => if r1 = 0 then some ((0 : Int32), s2) else ck (inr a 60) (nmx (pI s2 73 a.toNatClampNeg (s2.1 7 7)) (fun s4 => bd (f_X7_advance s4) (fun _ s6 => some ((1 : Int32), s6)))))) (f_X12_oldOne base many b t) (Og (fun s' t' => (DyR n dd e x s' t' ∧ Ch x 73 j s t s' t') ∧ (0 ≤ (t'.1 1 (2030 + 6 * x + j)).toInt ∧ (t'.1 1 (2030 + 6 * x + j)).toInt < (t.1 1 q).toInt) ∧ (s.1 7 2).toInt ≤ (s'.1 7 4).toInt)) := by
  have tk := h.1.1.1
  have h0 := h.1.1.2
  unfold f_X12_oldOne f_X7_findName_25
  refine rq_bM (name_r tk) (fun r t2 m => ?_)
  obtain ⟨et, m⟩ := m
  rw [et]
  rcases m with ⟨m1, m2⟩ | ⟨m1, m2⟩
  · rw [m1, if_neg i10]
    refine rc_i (fun _ => rc_b ?_) (fun z => absurd m2 z)
    refine rq_find h m2 hq base many hbase hm (fun v hv _ => ?_)
    refine rc_i (fun c => ?_) (fun c => ?_)
    · rw [q_eq] at c
      subst c
      refine rq_cM (fun _ => rq_iM (fun _ => ?_) (fun z => (z (by rw [q_eq])).elim))
      refine rc_b (rq_b2 (fails_r (t7m_d h _ _ _) (m18_d h0) 3 (by decide)) (fun r1 s1 r2 t1 g => ?_))
      obtain ⟨g1, g2, g3⟩ := g
      rw [g1, g2]
      exact rc_i (fun _ => rc_s (rq_iC (fun _ => rq_cM (fun _ => rq_s (Or.inr ⟨rfl, rfl, g3⟩))) (fun z => absurd rfl z))) (fun z => absurd rfl z)
    · rw [q_eq] at c
      refine rc_s (rq_iC (fun z => absurd z i10) (fun _ => ?_))
      refine rq_cM (fun _ => rq_iM (fun z => absurd (by rw [q_eq] at z; exact z) c) (fun _ => ?_))
      rw [hb]
      refine rq_w (tail_d h (Or.inl rfl) hj rfl a v ha) (fun r s' r' t' g => ?_)
      rcases g with ⟨g1, g2, g3, g4, g5⟩ | g
      · refine Or.inl ⟨g1, g2, g3, ?_, g5⟩
        rw [g4]
        exact hv.resolve_left c
      · exact Or.inr g
  · rw [m1, if_pos rfl]
    refine rc_i (fun z => absurd z m2) (fun _ => rc_b ?_)
    refine rq_b2 (fails_r tk h0 2 (by decide)) (fun r1 s1 r2 t1 g => ?_)
    obtain ⟨g1, g2, g3⟩ := g
    rw [g1, g2]
    exact rc_c (fun _ => rc_s (rq_iC (fun _ => rq_cM (fun _ => rq_s (Or.inr ⟨rfl, rfl, g3⟩))) (fun z => absurd rfl z)))
def HsC (cc : Nat) (a : Int32) (s : Sg) : Option (Int32 × Sg) := bd (f_X7_findName_25 100 s) (fun r1 s2 => if r1 = 0 then some ((0 : Int32), s2) else bd (f_X4_isGone (s2.1 7 7) s2) (fun r3 s4 => if r3 = 0 then ck (inr a 60) (nmx (pI s4 cc a.toNatClampNeg (s4.1 7 7)) (fun s6 => bd (f_X7_advance s6) (fun _ s8 => some ((1 : Int32), s8)))) else bd (f_X7_wrong 5 s4) (fun r9 s10 => ck (r9 = 0 ∨ r9 = 1) (some (r9, s10)))))
theorem house_d {n : Nat} {dd e : Int} {x cc : Nat} {s t : Sg} (h : DyR n dd e x s t) (hc : cc = 73 ∨ cc = 75) (a b : Int32) (ha : a.toInt = (x : Int)) (hb : b.toNatClampNeg = 2030 + 6 * x + 1) : RQ (HsC cc a s) (f_X12_stepTo b t) (Og (fun s' t' => (DyR n dd e x s' t' ∧ Ch x cc 1 s t s' t') ∧ ((0 ≤ (t'.1 1 (2030 + 6 * x + 1)).toInt ∧ (t'.1 1 (2030 + 6 * x + 1)).toInt < (t.1 1 0).toInt) ∧ ¬ bt (t.1 1 9) (t'.1 1 (2030 + 6 * x + 1)).toInt.toNat = true) ∧ (s.1 7 2).toInt ≤ (s'.1 7 4).toInt)) := by
  have tk := h.1.1.1
  have h0 := h.1.1.2
  have b8 := h.1.2.1.2.1
  unfold HsC f_X12_stepTo f_X7_findName_25
  refine rq_bM (pq_and (name_r tk) (show PQ _ (fun r t' => f_X12_isName_1001 t = some (r, t')) from fun r t' e => e)) (fun r t2 m => ?_)
  obtain ⟨⟨et, m⟩, en⟩ := m
  rw [et] at en ⊢
  rcases m with ⟨m1, m2⟩ | ⟨m1, m2⟩
  · rw [m1] at en ⊢
    rw [if_neg i10]
    refine rc_i (fun _ => rc_b ?_) (fun z => absurd m2 z)
    refine rq_find (q := 0) h m2 (by decide) 0 _ rfl rfl (fun v hv ef => ?_)
    show RQ _ (f_X12_stepTo_b24 b v t) _
    unfold f_X12_stepTo_b24
    refine rc_i (fun c => ?_) (fun c => ?_)
    · rw [q_eq] at c
      subst c
      refine rq_iM (fun _ => ?_) (fun z => absurd rfl z)
      rw [oldO hb en ef]
      refine rm_c (fun _ => rm_i (fun _ => ?_) (fun z => absurd rfl z))
      refine rc_b (rm_b (rq_b2 (fails_r (t7m_d h _ _ _) (m18_d h0) 3 (by decide)) (fun r1 s1 r2 t1 g => ?_)))
      obtain ⟨g1, g2, g3⟩ := g
      rw [g1, g2]
      exact rc_i (fun _ => rc_s (rq_iC (fun _ => rm_c (fun _ => rm_s (rq_cM (fun _ => rq_s (Or.inr ⟨rfl, rfl, g3⟩))))) (fun z => absurd rfl z))) (fun z => absurd rfl z)
    · rw [q_eq] at c
      have hv' := hv.resolve_left c
      have vt : v.toInt = (v.toInt.toNat : Int) := by omega
      have v8 : v.toInt.toNat < 32 := by omega
      refine rc_s (rq_iC (fun z => absurd z i10) (fun _ => rq_iM (fun z => absurd z c) (fun _ => ?_)))
      rw [q_eq]
      refine rq_f (gone_c (h7_d h v).1.2.1 vt v8) (gone_m vt v8 t) Iff.rfl (fun y => ?_) (fun y => ?_)
      · refine rq_iC (fun z => absurd z i10) (fun _ => rq_iM (fun z => absurd z i10) (fun _ => ?_))
        exact og_f (t7_d h v) h0 5 (by decide)
      · refine rq_iC (fun _ => rq_iM (fun _ => ?_) (fun z => absurd rfl z)) (fun z => absurd rfl z)
        rw [oldO hb en ef]
        refine rm_c (fun _ => rm_i (fun z => absurd z c) (fun _ => rq_kM ?_))
        refine rq_w (tail_d h hc (by decide) rfl a v ha) (fun r s' r' t' g => ?_)
        rcases g with ⟨g1, g2, g3, g4, g5⟩ | g
        · refine Or.inl ⟨g1, g2, g3, ?_, g5⟩
          rw [g4]
          exact ⟨hv', y⟩
        · exact Or.inr g
  · rw [m1] at en ⊢
    rw [if_pos rfl]
    unfold f_X12_stepTo_b24
    refine rq_iM (fun _ => ?_) (fun z => absurd rfl z)
    unfold f_X12_oldOne
    refine rm_b ?_
    rw [en]
    refine rm_s (rm_i (fun _ => rm_b ?_) (fun z => absurd rfl z))
    refine rc_i (fun z => absurd z m2) (fun _ => rc_b (rq_b2 (fails_r tk h0 2 (by decide)) (fun r1 s1 r2 t1 g => ?_)))
    obtain ⟨g1, g2, g3⟩ := g
    rw [g1, g2]
    exact rc_c (fun _ => rc_s (rq_iC (fun _ => rm_c (fun _ => rm_s (rq_cM (fun _ => rq_s (Or.inr ⟨rfl, rfl, g3⟩))))) (fun z => absurd rfl z)))
