/-! the class: a grocer's number is below 4, in names and in days -/
theorem inr_x {i : Int32} {n : Nat} (h : inr i n) : 0 ≤ i.toInt ∧ i.toInt < (n : Int) := by
  have e : i.toNatClampNeg = i.toInt.toNat := rfl
  have h0 : 0 ≤ i.toInt := i_nlt (fun q => h (Or.inl q))
  have h1 : ¬ n ≤ i.toNatClampNeg := fun q => h (Or.inr q)
  omega
def GrocW (b : Nat) (s : Sg) : Prop := ∀ k : Nat, (k : Int) < (s.1 (b + 1) 12).toInt → s.1 (b + 5) k = 112 → (s.1 (b + 6) k).toInt ≤ 3
def WkC (b : Nat) (s : Sg) : Prop := GrocW b s ∧ BuyW b s
theorem wk_cp {b b' : Nat} {s s' : Sg} (h : WkC b s) (r1 : (s.1 (b + 1) 12).toInt ≤ 24) (r2 : (s.1 (b + 3) 7).toInt ≤ 60) (e1 : s'.1 (b' + 1) 12 = s.1 (b + 1) 12) (e2 : ∀ k, k < 24 → s'.1 (b' + 5) k = s.1 (b + 5) k) (e3 : ∀ k, k < 24 → s'.1 (b' + 6) k = s.1 (b + 6) k) (e4 : s'.1 (b' + 3) 7 = s.1 (b + 3) 7) (e5 : ∀ k, k < 60 → s'.1 (b' + 21) k = s.1 (b + 21) k) (e6 : ∀ k, k < 60 → s'.1 (b' + 22) k = s.1 (b + 22) k) : WkC b' s' := by
  constructor
  · intro k h1 h2
    rw [e1] at h1
    rw [e2 k (by omega)] at h2
    rw [e3 k (by omega)]
    exact h.1 k h1 h2
  · intro k h1 h2
    rw [e4] at h1
    rw [e5 k (by omega)] at h2
    rw [e6 k (by omega)]
    exact h.2 k h1 h2
def P51 (s : Sg) : Prop := GrocW 51 s ∧ s.1 54 7 = 0 ∧ (s.1 52 12).toInt ≤ 24
abbrev M51 : Nat := 2037035976334486086268444845904617060416938849219546932903317247783529283179142718240587775
theorem p5_t {L1 : Nat} {s s' : Sg} (h : P51 s) (f : Fr cC L1 s s') (hL : L1 &&& M51 = L1) : P51 s' := by
  have e1 : s'.1 52 12 = s.1 52 12 := (f 52 12 (tb_sub hL (by decide +kernel))).1
  have e2 : ∀ k, s'.1 56 k = s.1 56 k := fun k => (f 56 k (tb_sub hL (show Nat.testBit M51 56 = false by decide +kernel))).1
  have e3 : ∀ k, s'.1 57 k = s.1 57 k := fun k => (f 57 k (tb_sub hL (show Nat.testBit M51 57 = false by decide +kernel))).1
  have e4 : s'.1 54 7 = s.1 54 7 := (f 54 7 (tb_sub hL (by decide +kernel))).1
  refine ⟨fun k h1 h2 => ?_, e4.trans h.2.1, by rw [e1]; exact h.2.2⟩
  have h1 : (k : Int) < (s'.1 52 12).toInt := h1
  have h2 : s'.1 56 k = 112 := h2
  rw [e1] at h1
  rw [e2] at h2
  show (s'.1 57 k).toInt ≤ 3
  rw [e3]
  exact h.1 k h1 h2
theorem fr_x {cd : Nat → Nat → Nat} {s : Sg} {c k : Nat} {v : Int32} (m : Nat) (hm : cd c k = m) : Fr cd (2 ^ m) s (pI s c k v) := fr_i fr_r m hm (by rw [Nat.testBit_two_pow_self])
theorem m_and {M m : Nat} (h : M.testBit m = true) : 2 ^ m &&& M = 2 ^ m := by
  apply Nat.eq_of_testBit_eq
  intro i
  rw [Nat.testBit_and, Nat.testBit_two_pow]
  by_cases e : m = i
  · subst e; simp [h]
  · simp [e]
theorem p5_i {s : Sg} {c k : Nat} {v : Int32} (h : P51 s) (m : Nat) (hm : cC c k = m) (hL : M51.testBit m = true) : P51 (pI s c k v) := p5_t h (fr_x m hm) (m_and hL)
theorem an_b (v1 : Int64) (v3 v4 : Int32) (hg : v3 = 112 → v4.toInt ≤ 3) (n : Nat) : ∀ (v5 : Int32) (s : Sg), P51 s → PQ (f_X4_addName_52_b14 n v1 v3 v4 v5 s) (fun _ s9 => P51 s9) := by
  induction n with
  | zero => intro v5 s _ r s9 e; cases e
  | succ n ih =>
    intro v5 s h
    unfold f_X4_addName_52_b14
    refine pq_if (fun _ => ?_) (fun _ => pq_c (fun _ => pq_if (fun _ => pq_s h) (fun _ => ih _ _ h)))
    refine pq_c (fun c1 => pq_n (fun s2 e2 => pq_c (fun _ => pq_n (fun s4 e4 => pq_c (fun _ => pq_n (fun s6 e6 => pq_s ?_))))))
    have c1 := inr_x c1
    have k2 : s2.1 = s.1 := by rw [e2]; rfl
    have k4 : s4.1 52 12 = s.1 52 12 := by rw [e4, q_nc rfl, k2]
    have k6 : s6.1 52 12 = s.1 52 12 := by rw [e6, q_nc rfl, k4]
    rw [k2] at e4
    rw [k4] at e6
    have a1 : ((s.1 52 12) + 1).toInt = (s.1 52 12).toInt + 1 := i_addx (s.1 52 12) 1 (show -2147483648 ≤ (s.1 52 12).toInt + 1 ∧ (s.1 52 12).toInt + 1 ≤ 2147483647 from by omega)
    refine ⟨fun k h1 h2 => ?_, ?_, by rw [q_eq, k6]; omega⟩
    · have h1 : (k : Int) < ((pI s6 52 12 ((s6.1 52 12) + 1)).1 52 12).toInt := h1
      have h2 : (pI s6 52 12 ((s6.1 52 12) + 1)).1 56 k = 112 := h2
      show ((pI s6 52 12 ((s6.1 52 12) + 1)).1 57 k).toInt ≤ 3
      rw [q_eq, k6] at h1
      rw [q_nc rfl, e6, q_nc rfl, e4, pI_1] at h2
      rw [q_nc rfl, e6, pI_1]
      have cl := cl_nat (s.1 52 12)
      by_cases q : k = (s.1 52 12).toNatClampNeg
      · rw [if_pos ⟨rfl, q⟩] at h2
        rw [if_pos ⟨rfl, q⟩]
        exact hg h2
      · rw [if_neg (fun g => q g.2), k2] at h2
        rw [if_neg (fun g => q g.2), e4, q_nc rfl, k2]
        exact h.1 k (show (k : Int) < (s.1 52 12).toInt by omega) h2
    · show (pI s6 52 12 ((s6.1 52 12) + 1)).1 54 7 = 0
      rw [q_nc rfl, e6, q_nc rfl, e4, q_nc rfl, k2]
      exact h.2.1
theorem an_g (a1 : Int64) (a2 a3 : Int32) {s : Sg} (h : P51 s) (hg : a2 = 112 → a3.toInt ≤ 3) : PQ (f_X4_addName_52 a1 a2 a3 s) (fun _ s9 => P51 s9) := by
  unfold f_X4_addName_52
  exact pq_if (fun _ => an_b _ _ _ hg BIG _ _ h) (fun _ => pq_s h)
theorem tn_g (a1 a2 a3 : Int32) {s : Sg} (h : P51 s) (hg : ¬ a1 = 112 ∨ a3.toInt ≤ 4) : PQ (f_X6_takeNew a1 a2 a3 s) (fun _ s9 => P51 s9) := by
  unfold f_X6_takeNew
  refine pq_if (fun c => ?_) (fun _ => ?_)
  · have c := i_lt c
    refine pq_b (ft_X7_advance _) (fun _ s2 g2 => ?_)
    have h2 := p5_t h g2 rfl
    refine pq_if (fun _ => ?_) (fun _ => ?_)
    · refine pq_b (an_g _ _ _ h2 (fun e => by rcases hg with g | g; exact absurd e g; omega)) (fun r3 s4 h4 => ?_)
      refine pq_if (fun _ => ?_) (fun _ => ?_)
      · refine pq_b (ft_X7_wrong _ _) (fun r5 s6 g6 => pq_c (fun _ => pq_s (p5_t h4 g6 rfl)))
      · refine pq_b (ft_X7_advance _) (fun _ s8 g8 => pq_s (p5_t h4 g8 rfl))
    · refine pq_b (ft_X7_wrong _ _) (fun r5 s6 g6 => pq_c (fun _ => pq_s (p5_t h2 g6 rfl)))
  · refine pq_b (ft_X7_wrong _ _) (fun r5 s6 g6 => pq_c (fun _ => pq_s (p5_t h g6 rfl)))
theorem pv_X6_takeHouse_b64 (v1 : Int32) (t0 : Int32) (s : Sg) (hJ : P51 s) : PQ (f_X6_takeHouse_b64 v1 t0 s) (fun _ s9 => P51 s9) := by
  unfold f_X6_takeHouse_b64
  refine pq_b (ft_X6_takeGrains_67 _ _ _) (fun _ s4 gs4 => ?_)
  have js4 := p5_t hJ gs4 rfl
  refine pq_if (fun _ => ?_) (fun _ => ?_)
  · exact pq_s js4
  · refine pq_b (ft_X6_takeGrains_68 _ _ _) (fun _ s6 gs6 => ?_)
    have js6 := p5_t js4 gs6 rfl
    refine pq_if (fun _ => ?_) (fun _ => ?_)
    · exact pq_s js6
    · refine pq_if (fun _ => ?_) (fun _ => ?_)
      · refine pq_if (fun _ => ?_) (fun _ => ?_)
        · refine pq_n (fun s7 es7 => ?_)
          have js7 : P51 s7 := by rw [es7]; exact (p5_i js6 207 rfl rfl)
          refine pq_b (ft_X7_advance  _) (fun _ s9 gs9 => ?_)
          have js9 := p5_t js7 gs9 rfl
          refine pq_b (ft_X7_pass _ _) (fun _ s11 gs11 => ?_)
          have js11 := p5_t js9 gs11 rfl
          refine pq_c (fun _ => ?_)
          exact pq_s js11
        · refine pq_b (ft_X7_wrong _ _) (fun _ s13 gs13 => ?_)
          have js13 := p5_t js6 gs13 rfl
          refine pq_c (fun _ => ?_)
          exact pq_s js13
      · refine pq_b (ft_X7_pass _ _) (fun _ s15 gs15 => ?_)
        have js15 := p5_t js6 gs15 rfl
        refine pq_c (fun _ => ?_)
        exact pq_s js15
theorem pv_X6_takeHouse_b59 (v1 : Int32) (s : Sg) (hJ : P51 s) : PQ (f_X6_takeHouse_b59 v1 s) (fun _ s9 => P51 s9) := by
  unfold f_X6_takeHouse_b59
  exact pv_X6_takeHouse_b64 _ _ _ hJ
theorem pv_X6_takeHouse  {s : Sg} (hJ : P51 s) : PQ (f_X6_takeHouse  s) (fun _ s9 => P51 s9) := by
  unfold f_X6_takeHouse
  refine pq_b (tn_g _ _ _ hJ (by decide)) (fun _ s2 gs2 => ?_)
  refine pq_if (fun _ => ?_) (fun _ => ?_)
  · exact pq_s gs2
  · refine pq_if (fun _ => ?_) (fun _ => ?_)
    · exact pv_X6_takeHouse_b59 _ _ (p5_i gs2 203 rfl rfl)
    · refine pq_if (fun _ => ?_) (fun _ => ?_)
      · exact pv_X6_takeHouse_b59 _ _ (p5_i gs2 203 rfl rfl)
      · exact pv_X6_takeHouse_b64 _ _ _ (p5_i gs2 203 rfl rfl)

theorem pv_X6_takeCounts_b35  (s : Sg) (hJ : P51 s) : PQ (f_X6_takeCounts_b35  s) (fun _ s9 => P51 s9) := by
  unfold f_X6_takeCounts_b35
  refine pq_b (ft_X7_pass _ _) (fun _ s4 gs4 => ?_)
  have js4 := p5_t (p5_i (p5_i hJ 8 rfl rfl) 209 rfl rfl) gs4 rfl
  refine pq_if (fun _ => ?_) (fun _ => ?_)
  · exact pq_s js4
  · refine pq_b (ft_X7_pass _ _) (fun _ s6 gs6 => ?_)
    have js6 := p5_t js4 gs6 rfl
    refine pq_if (fun _ => ?_) (fun _ => ?_)
    · exact pq_s js6
    · exact pq_s js6
theorem pv_X6_takeCounts  {s : Sg} (hJ : P51 s) : PQ (f_X6_takeCounts  s) (fun _ s9 => P51 s9) := by
  unfold f_X6_takeCounts
  refine pq_b (ft_X7_advance  _) (fun _ s2 gs2 => ?_)
  have js2 := p5_t hJ gs2 rfl
  refine pq_if (fun _ => ?_) (fun _ => ?_)
  · refine pq_if (fun _ => ?_) (fun _ => ?_)
    · exact pv_X6_takeCounts_b35  _ js2
    · refine pq_b (ft_X7_wrong _ _) (fun _ s8 gs8 => ?_)
      have js8 := p5_t js2 gs8 rfl
      refine pq_c (fun _ => ?_)
      exact pq_s js8
  · exact pv_X6_takeCounts_b35  _ js2

theorem pv_X6_takeQuarrel  {s : Sg} (hJ : P51 s) : PQ (f_X6_takeQuarrel  s) (fun _ s9 => P51 s9) := by
  unfold f_X6_takeQuarrel
  refine pq_b (tn_g _ _ _ hJ (by decide)) (fun _ s2 gs2 => ?_)
  refine pq_if (fun _ => ?_) (fun _ => ?_)
  · exact pq_s gs2
  · refine pq_b (ft_X7_pass _ _) (fun _ s4 gs4 => ?_)
    have js4 := p5_t gs2 gs4 rfl
    refine pq_if (fun _ => ?_) (fun _ => ?_)
    · exact pq_s js4
    · refine pq_b (ft_X6_takeEnd_58 _ _ _ _) (fun _ s6 gs6 => ?_)
      have js6 := p5_t js4 gs6 rfl
      refine pq_if (fun _ => ?_) (fun _ => ?_)
      · exact pq_s js6
      · refine pq_b (ft_X7_pass _ _) (fun _ s8 gs8 => ?_)
        have js8 := p5_t js6 gs8 rfl
        refine pq_if (fun _ => ?_) (fun _ => ?_)
        · exact pq_s js8
        · refine pq_c (fun _ => ?_)
          refine pq_b (ft_X6_takeEnd_59 _ _ _ _) (fun _ s11 gs11 => ?_)
          have js11 := p5_t js8 gs11 rfl
          refine pq_if (fun _ => ?_) (fun _ => ?_)
          · exact pq_s js11
          · refine pq_b (ft_X7_pass _ _) (fun _ s13 gs13 => ?_)
            have js13 := p5_t js11 gs13 rfl
            refine pq_if (fun _ => ?_) (fun _ => ?_)
            · exact pq_s js13
            · refine pq_b (ft_X7_passNumber _ _ _) (fun _ s15 gs15 => ?_)
              have js15 := p5_t js13 gs15 rfl
              refine pq_if (fun _ => ?_) (fun _ => ?_)
              · exact pq_s js15
              · refine pq_n (fun s16 es16 => ?_)
                have js16 : P51 s16 := by rw [es16]; exact (p5_i js15 60 rfl rfl)
                refine pq_b (ft_X4_joinAt_52 _ _) (fun _ s18 gs18 => ?_)
                have js18 := p5_t js16 gs18 rfl
                refine pq_n (fun s19 es19 => ?_)
                have js19 : P51 s19 := by rw [es19]; exact (p5_i js18 204 rfl rfl)
                refine pq_b (ft_X7_pass _ _) (fun _ s21 gs21 => ?_)
                have js21 := p5_t js19 gs21 rfl
                refine pq_c (fun _ => ?_)
                exact pq_s js21

theorem pv_X6_takeCat  {s : Sg} (hJ : P51 s) : PQ (f_X6_takeCat  s) (fun _ s9 => P51 s9) := by
  unfold f_X6_takeCat
  refine pq_b (tn_g _ _ _ hJ (by decide)) (fun _ s2 gs2 => ?_)
  refine pq_if (fun _ => ?_) (fun _ => ?_)
  · exact pq_s gs2
  · refine pq_b (ft_X7_pass _ _) (fun _ s4 gs4 => ?_)
    have js4 := p5_t gs2 gs4 rfl
    refine pq_if (fun _ => ?_) (fun _ => ?_)
    · exact pq_s js4
    · refine pq_b (ft_X6_takeEnd_62 _ _ _ _) (fun _ s6 gs6 => ?_)
      have js6 := p5_t js4 gs6 rfl
      refine pq_if (fun _ => ?_) (fun _ => ?_)
      · exact pq_s js6
      · refine pq_b (ft_X7_pass _ _) (fun _ s8 gs8 => ?_)
        have js8 := p5_t js6 gs8 rfl
        refine pq_if (fun _ => ?_) (fun _ => ?_)
        · exact pq_s js8
        · refine pq_c (fun _ => ?_)
          refine pq_b (ft_X6_takeEnd_63 _ _ _ _) (fun _ s11 gs11 => ?_)
          have js11 := p5_t js8 gs11 rfl
          refine pq_if (fun _ => ?_) (fun _ => ?_)
          · exact pq_s js11
          · refine pq_b (ft_X7_pass _ _) (fun _ s13 gs13 => ?_)
            have js13 := p5_t js11 gs13 rfl
            refine pq_if (fun _ => ?_) (fun _ => ?_)
            · exact pq_s js13
            · refine pq_b (ft_X7_passNumber _ _ _) (fun _ s15 gs15 => ?_)
              have js15 := p5_t js13 gs15 rfl
              refine pq_if (fun _ => ?_) (fun _ => ?_)
              · exact pq_s js15
              · refine pq_n (fun s16 es16 => ?_)
                have js16 : P51 s16 := by rw [es16]; exact (p5_i js15 64 rfl rfl)
                refine pq_n (fun s17 es17 => ?_)
                have js17 : P51 s17 := by rw [es17]; exact (p5_i js16 205 rfl rfl)
                refine pq_b (ft_X7_pass _ _) (fun _ s19 gs19 => ?_)
                have js19 := p5_t js17 gs19 rfl
                refine pq_c (fun _ => ?_)
                exact pq_s js19

theorem pv_X6_takeGrocer_b171  (s : Sg) (hJ : P51 s) : PQ (f_X6_takeGrocer_b171  s) (fun _ s9 => P51 s9) := by
  unfold f_X6_takeGrocer_b171
  refine pq_b (ft_X7_pass _ _) (fun _ s21 gs21 => ?_)
  have js21 := p5_t (p5_i hJ 206 rfl rfl) gs21 rfl
  refine pq_c (fun _ => ?_)
  exact pq_s js21
theorem pv_X6_takeGrocer  {s : Sg} (hJ : P51 s) : PQ (f_X6_takeGrocer  s) (fun _ s9 => P51 s9) := by
  unfold f_X6_takeGrocer
  refine pq_b (tn_g _ _ _ hJ (by decide)) (fun _ s2 gs2 => ?_)
  refine pq_if (fun _ => ?_) (fun _ => ?_)
  · exact pq_s gs2
  · refine pq_b (ft_X7_pass _ _) (fun _ s4 gs4 => ?_)
    have js4 := p5_t gs2 gs4 rfl
    refine pq_if (fun _ => ?_) (fun _ => ?_)
    · exact pq_s js4
    · refine pq_b (ft_X7_passNumber _ _ _) (fun _ s6 gs6 => ?_)
      have js6 := p5_t js4 gs6 rfl
      refine pq_if (fun _ => ?_) (fun _ => ?_)
      · exact pq_s js6
      · refine pq_c (fun _ => ?_)
        refine pq_n (fun s8 es8 => ?_)
        have js8 : P51 s8 := by rw [es8]; exact (p5_i js6 71 rfl rfl)
        refine pq_b (ft_X7_pass _ _) (fun _ s10 gs10 => ?_)
        have js10 := p5_t js8 gs10 rfl
        refine pq_if (fun _ => ?_) (fun _ => ?_)
        · exact pq_s js10
        · refine pq_b (ft_X7_passNumber _ _ _) (fun _ s12 gs12 => ?_)
          have js12 := p5_t js10 gs12 rfl
          refine pq_if (fun _ => ?_) (fun _ => ?_)
          · exact pq_s js12
          · refine pq_n (fun s13 es13 => ?_)
            have js13 : P51 s13 := by rw [es13]; exact (p5_i js12 65 rfl rfl)
            refine pq_n (fun s14 es14 => ?_)
            have js14 : P51 s14 := by rw [es14]; exact (p5_i js13 66 rfl rfl)
            refine pq_if (fun _ => ?_) (fun _ => ?_)
            · refine pq_b (ft_X7_advance  _) (fun _ s16 gs16 => ?_)
              have js16 := p5_t js14 gs16 rfl
              refine pq_b (ft_X7_passNumber _ _ _) (fun _ s18 gs18 => ?_)
              have js18 := p5_t js16 gs18 rfl
              refine pq_if (fun _ => ?_) (fun _ => ?_)
              · exact pq_s js18
              · refine pq_n (fun s19 es19 => ?_)
                have js19 : P51 s19 := by rw [es19]; exact (p5_i js18 66 rfl rfl)
                exact pv_X6_takeGrocer_b171  _ js19
            · exact pv_X6_takeGrocer_b171  _ js14

theorem pv_X6_takeWashes_b35  (s : Sg) (hJ : P51 s) : PQ (f_X6_takeWashes_b35  s) (fun _ s9 => P51 s9) := by
  unfold f_X6_takeWashes_b35
  refine pq_b (ft_X7_pass _ _) (fun _ s4 gs4 => ?_)
  have js4 := p5_t hJ gs4 rfl
  refine pq_if (fun _ => ?_) (fun _ => ?_)
  · exact pq_s js4
  · refine pq_b (ft_X7_passNumber _ _ _) (fun _ s6 gs6 => ?_)
    have js6 := p5_t js4 gs6 rfl
    refine pq_if (fun _ => ?_) (fun _ => ?_)
    · exact pq_s js6
    · refine pq_n (fun s7 es7 => ?_)
      have js7 : P51 s7 := by rw [es7]; exact (p5_i (p5_i js6 8 rfl rfl) 208 rfl rfl)
      refine pq_b (ft_X7_pass _ _) (fun _ s9 gs9 => ?_)
      have js9 := p5_t js7 gs9 rfl
      refine pq_c (fun _ => ?_)
      exact pq_s js9
theorem pv_X6_takeWashes  {s : Sg} (hJ : P51 s) : PQ (f_X6_takeWashes  s) (fun _ s9 => P51 s9) := by
  unfold f_X6_takeWashes
  refine pq_b (ft_X7_advance  _) (fun _ s2 gs2 => ?_)
  have js2 := p5_t hJ gs2 rfl
  refine pq_if (fun _ => ?_) (fun _ => ?_)
  · refine pq_if (fun _ => ?_) (fun _ => ?_)
    · exact pv_X6_takeWashes_b35  _ js2
    · refine pq_b (ft_X7_wrong _ _) (fun _ s11 gs11 => ?_)
      have js11 := p5_t js2 gs11 rfl
      refine pq_c (fun _ => ?_)
      exact pq_s js11
  · exact pv_X6_takeWashes_b35  _ js2

theorem pv_X6_takeText_b21 (n : Nat) : ∀ (v1 : Int32) (v2 : Int32) (s : Sg), P51 s → PQ (f_X6_takeText_b21 n v1 v2 s) (fun _ s9 => P51 s9) := by
  induction n with
  | zero => intro v1 v2 s _ r s9 e; cases e
  | succ n ih =>
    intro v1 v2 s hJ
    unfold f_X6_takeText_b21
    refine pq_if (fun _ => ?_) (fun _ => ?_)
    · refine pq_c (fun _ => ?_)
      exact pq_s hJ
    · refine pq_if (fun _ => ?_) (fun _ => ?_)
      · refine pq_c (fun _ => ?_)
        exact pq_s hJ
      · refine pq_if (fun _ => ?_) (fun _ => ?_)
        · refine pq_c (fun _ => ?_)
          exact pq_s hJ
        · refine pq_if (fun _ => ?_) (fun _ => ?_)
          · refine pq_b (pv_X6_takeHouse  hJ) (fun _ s4 gs4 => ?_)
            exact ih _ _ _ gs4
          · refine pq_if (fun _ => ?_) (fun _ => ?_)
            · refine pq_b (ft_X7_wrong _ _) (fun _ s6 gs6 => ?_)
              have js6 := p5_t hJ gs6 rfl
              exact ih _ _ _ js6
            · refine pq_if (fun _ => ?_) (fun _ => ?_)
              · refine pq_b (ft_X7_wrong _ _) (fun _ s8 gs8 => ?_)
                have js8 := p5_t hJ gs8 rfl
                exact ih _ _ _ js8
              · refine pq_if (fun _ => ?_) (fun _ => ?_)
                · refine pq_b (pv_X6_takeCounts  hJ) (fun _ s10 gs10 => ?_)
                  exact ih _ _ _ gs10
                · refine pq_if (fun _ => ?_) (fun _ => ?_)
                  · refine pq_b (pv_X6_takeQuarrel  hJ) (fun _ s12 gs12 => ?_)
                    exact ih _ _ _ gs12
                  · refine pq_if (fun _ => ?_) (fun _ => ?_)
                    · refine pq_b (ft_X7_wrong _ _) (fun _ s14 gs14 => ?_)
                      have js14 := p5_t hJ gs14 rfl
                      exact ih _ _ _ js14
                    · refine pq_if (fun _ => ?_) (fun _ => ?_)
                      · refine pq_b (ft_X7_wrong _ _) (fun _ s16 gs16 => ?_)
                        have js16 := p5_t hJ gs16 rfl
                        exact ih _ _ _ js16
                      · refine pq_if (fun _ => ?_) (fun _ => ?_)
                        · refine pq_b (ft_X7_wrong _ _) (fun _ s18 gs18 => ?_)
                          have js18 := p5_t hJ gs18 rfl
                          exact ih _ _ _ js18
                        · refine pq_if (fun _ => ?_) (fun _ => ?_)
                          · refine pq_b (pv_X6_takeCat  hJ) (fun _ s20 gs20 => ?_)
                            exact ih _ _ _ gs20
                          · refine pq_if (fun _ => ?_) (fun _ => ?_)
                            · refine pq_b (ft_X7_wrong _ _) (fun _ s22 gs22 => ?_)
                              have js22 := p5_t hJ gs22 rfl
                              exact ih _ _ _ js22
                            · refine pq_if (fun _ => ?_) (fun _ => ?_)
                              · refine pq_b (ft_X7_wrong _ _) (fun _ s24 gs24 => ?_)
                                have js24 := p5_t hJ gs24 rfl
                                exact ih _ _ _ js24
                              · refine pq_if (fun _ => ?_) (fun _ => ?_)
                                · refine pq_b (ft_X7_wrong _ _) (fun _ s26 gs26 => ?_)
                                  have js26 := p5_t hJ gs26 rfl
                                  exact ih _ _ _ js26
                                · refine pq_if (fun _ => ?_) (fun _ => ?_)
                                  · refine pq_b (pv_X6_takeGrocer  hJ) (fun _ s28 gs28 => ?_)
                                    exact ih _ _ _ gs28
                                  · refine pq_if (fun _ => ?_) (fun _ => ?_)
                                    · refine pq_b (ft_X7_wrong _ _) (fun _ s30 gs30 => ?_)
                                      have js30 := p5_t hJ gs30 rfl
                                      exact ih _ _ _ js30
                                    · refine pq_if (fun _ => ?_) (fun _ => ?_)
                                      · refine pq_b (ft_X7_wrong _ _) (fun _ s32 gs32 => ?_)
                                        have js32 := p5_t hJ gs32 rfl
                                        exact ih _ _ _ js32
                                      · refine pq_if (fun _ => ?_) (fun _ => ?_)
                                        · refine pq_b (ft_X7_wrong _ _) (fun _ s34 gs34 => ?_)
                                          have js34 := p5_t hJ gs34 rfl
                                          exact ih _ _ _ js34
                                        · refine pq_if (fun _ => ?_) (fun _ => ?_)
                                          · refine pq_b (pv_X6_takeWashes  hJ) (fun _ s36 gs36 => ?_)
                                            exact ih _ _ _ gs36
                                          · refine pq_b (ft_X7_wrong _ _) (fun _ s38 gs38 => ?_)
                                            have js38 := p5_t hJ gs38 rfl
                                            exact ih _ _ _ js38

theorem cl_52 (s : Sg) : PQ (f_X4_clear_52 s) (fun _ s9 => s9.1 52 12 = 0) := by
  unfold f_X4_clear_52
  refine pq_b (ft_X11_clearRow_61 _) (fun _ s2 _ => pq_n (fun s3 e3 => pq_n (fun s4 e4 => pq_s ?_)))
  rw [q_ne rfl, q_ne rfl, e4, q_ne rfl, q_ne rfl, q_ne rfl, e3, q_ne rfl, q_ne rfl, q_eq]
theorem cl_54 (s : Sg) : PQ (f_X5_clear_54 s) (fun _ s9 => s9.1 54 7 = 0) := by
  unfold f_X5_clear_54
  refine pq_n (fun s1 e1 => pq_s ?_)
  rw [e1, q_ne rfl, q_eq]
theorem cl_51 (s : Sg) : PQ (f_X10_clear_51 s) (fun _ s9 => P51 s9) := by
  unfold f_X10_clear_51
  refine pq_b (cl_52 s) (fun _ s2 g2 => pq_b (ft_X2_clear_53 s2) (fun _ s4 g4 => pq_b (pq_and (cl_54 s4) (ft_X5_clear_54 s4)) (fun _ s6 g6 => pq_s ⟨fun k h1 _ => ?_, g6.1, ?_⟩)))
  rotate_left
  · rw [fr_e g6.2 52 12 202 rfl rfl, fr_e g4 52 12 202 rfl rfl, g2]; decide
  have h1 : (k : Int) < (s6.1 52 12).toInt := h1
  rw [fr_e g6.2 52 12 202 rfl rfl, fr_e g4 52 12 202 rfl rfl, g2] at h1
  have e : (0 : Int32).toInt = 0 := rfl
  omega
theorem tt_g (s : Sg) : PQ (f_X6_takeText s) (fun _ s9 => P51 s9) := by
  unfold f_X6_takeText
  refine pq_b (cl_51 s) (fun _ s2 h2 => ?_)
  exact pv_X6_takeText_b21 BIG _ _ _ (p5_i (p5_i h2 _ rfl (by decide +kernel)) _ rfl (by decide +kernel))
/-! days -/
def DD (s : Sg) : Prop := (GrocW 24 s ∧ (s.1 54 7).toInt ≤ 60) ∧ ∀ k : Nat, (k : Int) < (s.1 54 7).toInt → s.1 72 k = 119 → (s.1 73 k).toInt ≤ 3
def EX (N : Nat) (w : Int32) (s : Sg) : Prop := (GrocW 24 s ∧ (s.1 54 7).toInt ≤ 60) ∧ (∀ k : Nat, (k : Int) < (s.1 54 7).toInt → ¬ k = N → s.1 72 k = 119 → (s.1 73 k).toInt ≤ 3) ∧ s.1 72 N = w
abbrev MEX : Nat := 2037035976334486086268444845911044812593974810321714781272681898193603928270998061115768831
theorem gw_t {L1 : Nat} {s s' : Sg} (h : GrocW 24 s) (f : Fr cC L1 s s') (h1 : L1.testBit 25 = false) (h2 : L1.testBit 29 = false) (h3 : L1.testBit 30 = false) : GrocW 24 s' := by
  intro k k1 k2
  have e1 : s'.1 25 12 = s.1 25 12 := (f 25 12 h1).1
  have e2 : s'.1 29 k = s.1 29 k := (f 29 k h2).1
  have e3 : s'.1 30 k = s.1 30 k := (f 30 k h3).1
  have k1 : (k : Int) < (s'.1 25 12).toInt := k1
  have k2 : s'.1 29 k = 112 := k2
  rw [e1] at k1
  rw [e2] at k2
  show (s'.1 30 k).toInt ≤ 3
  rw [e3]
  exact h k k1 k2
theorem ex_t {N : Nat} {w : Int32} {L1 : Nat} {s s' : Sg} (h : EX N w s) (f : Fr cC L1 s s') (hL : L1 &&& MEX = L1) : EX N w s' := by
  have e1 : s'.1 54 7 = s.1 54 7 := (f 54 7 (tb_sub hL (by decide +kernel))).1
  have e2 : ∀ k, s'.1 72 k = s.1 72 k := fun k => (f 72 k (tb_sub hL (show Nat.testBit MEX 72 = false by decide +kernel))).1
  have e3 : ∀ k, s'.1 73 k = s.1 73 k := fun k => (f 73 k (tb_sub hL (show Nat.testBit MEX 73 = false by decide +kernel))).1
  refine ⟨⟨gw_t h.1.1 f (tb_sub hL (by decide +kernel)) (tb_sub hL (by decide +kernel)) (tb_sub hL (by decide +kernel)), by rw [e1]; exact h.1.2⟩, fun k h1 h2 h3 => ?_, (e2 N).trans h.2.2⟩
  rw [e1] at h1
  rw [e2] at h3
  rw [e3]
  exact h.2.1 k h1 h2 h3
theorem dd_t {L1 : Nat} {s s' : Sg} (h : DD s) (f : Fr cC L1 s s') (hL : L1 &&& MEX = L1) : DD s' := by
  have e1 : s'.1 54 7 = s.1 54 7 := (f 54 7 (tb_sub hL (by decide +kernel))).1
  have e2 : ∀ k, s'.1 72 k = s.1 72 k := fun k => (f 72 k (tb_sub hL (show Nat.testBit MEX 72 = false by decide +kernel))).1
  have e3 : ∀ k, s'.1 73 k = s.1 73 k := fun k => (f 73 k (tb_sub hL (show Nat.testBit MEX 73 = false by decide +kernel))).1
  refine ⟨⟨gw_t h.1.1 f (tb_sub hL (by decide +kernel)) (tb_sub hL (by decide +kernel)) (tb_sub hL (by decide +kernel)), by rw [e1]; exact h.1.2⟩, fun k h1 h3 => ?_⟩
  rw [e1] at h1
  rw [e2] at h3
  rw [e3]
  exact h.2 k h1 h3
theorem ex_i {N : Nat} {w : Int32} {s : Sg} {c k : Nat} {v : Int32} (h : EX N w s) (m : Nat) (hm : cC c k = m) (hL : MEX.testBit m = true) : EX N w (pI s c k v) := ex_t h (fr_x m hm) (m_and hL)
theorem dd_i {s : Sg} {c k : Nat} {v : Int32} (h : DD s) (m : Nat) (hm : cC c k = m) (hL : MEX.testBit m = true) : DD (pI s c k v) := dd_t h (fr_x m hm) (m_and hL)
theorem ex_th {N : Nat} {w v : Int32} {s : Sg} (h : EX N w s) : EX N w (pI s 73 N v) := by
  refine ⟨⟨fun k k1 k2 => ?_, by rw [q_nc rfl]; exact h.1.2⟩, fun k h1 h2 h3 => ?_, ?_⟩
  · exact h.1.1 k (by rw [← q_nc (s := s) (c := 73) (k := N) (v := v) rfl]; exact k1) (by rw [← q_nc (s := s) (c := 73) (k := N) (v := v) rfl]; exact k2)
  · rw [q_nc rfl] at h1 h3
    rw [pI_1, if_neg (fun g => h2 g.2)]
    exact h.2.1 k h1 h2 h3
  · rw [q_nc rfl]; exact h.2.2
theorem ex_d {N : Nat} {w : Int32} {s : Sg} (h : EX N w s) (hw : ¬ w = 119) : DD s := by
  refine ⟨h.1, fun k h1 h2 => ?_⟩
  by_cases q : k = N
  · rw [q, h.2.2] at h2
    exact absurd h2 hw
  · exact h.2.1 k h1 q h2
theorem ex_g {N : Nat} {w : Int32} {s : Sg} (h : EX N w s) (hw : (s.1 73 N).toInt ≤ 3) : DD s := by
  refine ⟨h.1, fun k h1 h2 => ?_⟩
  by_cases q : k = N
  · rw [q]; exact hw
  · exact h.2.1 k h1 q h2
theorem wr_z (a : Int32) (s : Sg) : PQ (f_X7_wrong a s) (fun r _ => r = 0) := by
  unfold f_X7_wrong
  refine pq_if (fun _ => ?_) (fun _ => ?_)
  · exact pq_n (fun _ _ => pq_s rfl)
  · exact pq_n (fun _ _ => pq_s rfl)
theorem wr_0 {Q : Sg → Prop} (a : Int32) (s : Sg) : PQ (bd (f_X7_wrong a s) (fun r s2 => ck (r = 0 ∨ r = 1) (some (r, s2)))) (fun r s9 => r = 0 ∨ Q s9) := pq_b (wr_z a s) (fun _ _ g => pq_c (fun _ => pq_s (Or.inl g)))
theorem gw_e {s s' : Sg} (h : GrocW 24 s) (e1 : s'.1 25 12 = s.1 25 12) (e2 : ∀ k, s'.1 29 k = s.1 29 k) (e3 : ∀ k, s'.1 30 k = s.1 30 k) : GrocW 24 s' := by
  intro k k1 k2
  have k1 : (k : Int) < (s'.1 25 12).toInt := k1
  have k2 : s'.1 29 k = 112 := k2
  rw [e1] at k1
  rw [e2] at k2
  show (s'.1 30 k).toInt ≤ 3
  rw [e3]
  exact h k k1 k2
theorem te_d {s : Sg} (h : DD s) : PQ (f_X1_takeEnd s) (fun r s9 => r = 0 ∨ DD s9) := by
  unfold f_X1_takeEnd
  refine pq_if (fun _ => wr_0 _ _) (fun _ => pq_if (fun _ => ?_) (fun _ => wr_0 _ _))
  refine pq_c (fun _ => pq_n (fun x4 _ => pq_c (fun c => pq_n (fun s6 e6 => pq_c (fun _ => pq_n (fun s8 e8 => pq_c (fun _ => pq_n (fun s10 e10 => ?_))))))))
  have e0 : (pI s 9 4 ((s.1 9 4) - 1)).1 54 7 = s.1 54 7 := q_nc rfl
  rw [e0] at c e6
  have c := inr_x c
  have h0 : DD (pI s 9 4 ((s.1 9 4) - 1)) := dd_i h 228 rfl (by decide +kernel)
  have n6 : s6.1 54 7 = s.1 54 7 := by rw [e6, q_nc rfl, e0]
  have n8 : s8.1 54 7 = s.1 54 7 := by rw [e8, q_nc rfl, n6]
  have n10 : s10.1 54 7 = s.1 54 7 := by rw [e10, q_nc rfl, n8]
  have cl := cl_nat (s.1 54 7)
  have a1 : ((s.1 54 7) + 1).toInt = (s.1 54 7).toInt + 1 := i_addx (s.1 54 7) 1 (show -2147483648 ≤ (s.1 54 7).toInt + 1 ∧ (s.1 54 7).toInt + 1 ≤ 2147483647 from by omega)
  have key : DD (pI s10 54 7 ((s10.1 54 7) + 1)) := by
    refine ⟨⟨gw_e h.1.1 (by rw [q_nc rfl, e10, q_nc rfl, e8, q_nc rfl, e6, q_nc rfl, q_nc rfl]) (fun k => by rw [q_nc rfl, e10, q_nc rfl, e8, q_nc rfl, e6, q_nc rfl, q_nc rfl]) (fun k => by rw [q_nc rfl, e10, q_nc rfl, e8, q_nc rfl, e6, q_nc rfl, q_nc rfl]), by rw [q_eq, n10]; omega⟩, fun k k1 k2 => ?_⟩
    rw [q_eq, n10] at k1
    rw [q_nc rfl, e10, q_nc rfl, e8, q_nc rfl, e6, pI_1] at k2
    rw [q_nc rfl, e10, q_nc rfl, e8, q_nc rfl, e6, q_nc rfl, q_nc rfl]
    by_cases q : k = (s.1 54 7).toNatClampNeg
    · rw [if_pos ⟨rfl, q⟩] at k2
      exact absurd k2 (by decide)
    · rw [if_neg (fun g => q g.2), q_nc rfl] at k2
      exact h.2 k (by omega) k2
  refine pq_b (ft_X7_advance _) (fun _ s12 g12 => pq_b (ft_X7_pass _ _) (fun r13 s14 g14 => pq_c (fun _ => pq_s (Or.inr (dd_t (dd_t key g12 rfl) g14 rfl)))))
theorem bs_129 (v1 : Int32) (N : Nat) {s : Sg} (hN : (s.1 54 7).toNatClampNeg = N) (h : DD s) : PQ (f_X1_beginStep_b129 v1 s) (fun r s9 => r = 0 ∨ EX N v1 s9) := by
  unfold f_X1_beginStep_b129
  refine pq_c (fun c => pq_n (fun s8 e8 => pq_n (fun s9 e9 => ?_)))
  have c := inr_x c
  rw [hN] at e8
  have n8 : s8.1 54 7 = s.1 54 7 := by rw [e8, q_nc rfl]
  have cl := cl_nat (s.1 54 7)
  have a1 : ((s.1 54 7) + 1).toInt = (s.1 54 7).toInt + 1 := i_addx (s.1 54 7) 1 (show -2147483648 ≤ (s.1 54 7).toInt + 1 ∧ (s.1 54 7).toInt + 1 ≤ 2147483647 from by omega)
  have key : EX N v1 s9 := by
    refine ⟨⟨gw_e h.1.1 (by rw [e9, q_nc rfl, q_nc rfl, e8, q_nc rfl]) (fun k => by rw [e9, q_nc rfl, q_nc rfl, e8, q_nc rfl]) (fun k => by rw [e9, q_nc rfl, q_nc rfl, e8, q_nc rfl]), by rw [e9, q_ne rfl, q_eq, n8]; omega⟩, fun k k1 k2 k3 => ?_, ?_⟩
    · rw [e9, q_ne rfl, q_eq, n8] at k1
      rw [e9, q_nc rfl, q_nc rfl, e8, pI_1, if_neg (fun g => k2 g.2)] at k3
      rw [e9, q_nc rfl, q_nc rfl, e8, q_nc rfl]
      exact h.2 k (by omega) k3
    · rw [e9, q_nc rfl, q_nc rfl, e8, q_eq]
  exact pq_b (ft_X7_advance _) (fun _ s11 g11 => pq_s (Or.inr (ex_t key g11 rfl)))
theorem bs_99 (v1 v2 : Int32) (N : Nat) {s : Sg} (hN : (s.1 54 7).toNatClampNeg = N) (h : DD s) : PQ (f_X1_beginStep_b99 v1 v2 s) (fun r s9 => r = 0 ∨ EX N v1 s9) := by
  unfold f_X1_beginStep_b99
  refine pq_if (fun _ => bs_129 v1 N hN h) (fun _ => pq_c (fun _ => pq_n (fun s13 e13 => ?_)))
  have h13 : DD s13 := by rw [e13]; exact dd_i h 23 rfl (by decide +kernel)
  refine bs_129 v1 N ?_ (dd_i h13 228 rfl (by decide +kernel))
  rw [q_nc rfl, e13, q_nc rfl, hN]
theorem bs_26 (v1 t0 : Int32) (N : Nat) {s : Sg} (hN : (s.1 54 7).toNatClampNeg = N) (h : DD s) : PQ (f_X1_beginStep_b26 v1 t0 s) (fun r s9 => r = 0 ∨ EX N v1 s9) := by
  unfold f_X1_beginStep_b26
  refine pq_b (ft_X1_isStepWord _ _) (fun r1 s2 g2 => ?_)
  have h2 := dd_t h g2 rfl
  have hN2 : (s2.1 54 7).toNatClampNeg = N := by rw [fr_e g2 54 7 219 rfl rfl, hN]
  refine pq_if (fun _ => wr_0 _ _) (fun _ => pq_if (fun _ => wr_0 _ _) (fun _ => pq_if (fun _ => pq_if (fun _ => bs_99 v1 t0 N hN2 h2) (fun _ => pq_if (fun _ => bs_99 v1 t0 N hN2 h2) (fun _ => wr_0 _ _))) (fun _ => wr_0 _ _)))
theorem bs_d {s : Sg} (h : DD s) : PQ (f_X1_beginStep s) (fun r s9 => r = 0 ∨ EX (s.1 54 7).toNatClampNeg (s.1 7 3) s9) := by
  unfold f_X1_beginStep
  refine pq_if (fun _ => ?_) (fun _ => pq_if (fun _ => ?_) (fun _ => bs_26 _ _ _ rfl h))
  · exact bs_26 _ _ _ rfl h
  · exact bs_26 _ _ _ rfl h
theorem nb_3 (v1 : Int64) (n : Nat) : ∀ (v4 : Int32) (s : Sg), GrocW 24 s → PQ (f_X4_numberOf_b3 n v1 112 v4 s) (fun r s9 => s9 = s ∧ r.toInt ≤ 3) := by
  induction n with
  | zero => intro v4 s _ r s9 e; cases e
  | succ n ih =>
    intro v4 s h
    unfold f_X4_numberOf_b3
    refine pq_if (fun _ => pq_s ⟨rfl, by decide⟩) (fun c => pq_c (fun c2 => pq_if (fun _ => pq_if (fun c3 => pq_s ⟨rfl, ?_⟩) (fun _ => ih _ s h)) (fun _ => ih _ s h)))
    have c := i_nle c
    have c2 := inr_x c2
    have cl := cl_nat v4
    exact h v4.toNatClampNeg (show (v4.toNatClampNeg : Int) < (s.1 25 12).toInt by omega) c3
theorem fn_g {s : Sg} (h : GrocW 24 s) : PQ (f_X7_findName_25 112 s) (fun r s9 => r = 0 ∨ (s9.1 7 7).toInt ≤ 3) := by
  unfold f_X7_findName_25
  refine pq_if (fun _ => ?_) (fun _ => wr_0 _ _)
  refine pq_b (show PQ (f_X4_numberOf (s.2 7 6) 112 s) (fun r s9 => s9 = s ∧ r.toInt ≤ 3) from by unfold f_X4_numberOf; exact nb_3 _ BIG 0 s h) (fun r1 s2 g => ?_)
  refine pq_if (fun _ => pq_b (wr_z _ _) (fun r3 s4 g3 => pq_if (fun _ => pq_s (Or.inl rfl)) (fun c => absurd g3 c))) (fun _ => pq_s (Or.inr ?_))
  rw [q_eq]
  exact g.2
theorem tg_d (a1 : Int32) (w : Int32) {s : Sg} (h : EX a1.toNatClampNeg w s) : PQ (f_X1_takeGrocer a1 s) (fun r s9 => r = 0 ∨ (EX a1.toNatClampNeg w s9 ∧ (s9.1 73 a1.toNatClampNeg).toInt ≤ 3)) := by
  unfold f_X1_takeGrocer
  refine pq_b (pq_and (fn_g h.1.1) (ft_X7_findName_25 112 s)) (fun r1 s2 g2 => pq_if (fun _ => pq_s (Or.inl rfl)) (fun c => ?_))
  have q : (s2.1 7 7).toInt ≤ 3 := g2.1.elim (fun e => absurd e c) id
  have h2 := ex_t h g2.2 rfl
  refine pq_c (fun _ => pq_n (fun s4 e4 => ?_))
  have h4 : EX a1.toNatClampNeg w s4 := by rw [e4]; exact ex_th h2
  have t4 : (s4.1 73 a1.toNatClampNeg).toInt ≤ 3 := by rw [e4, q_eq]; exact q
  refine pq_b (ft_X7_advance _) (fun _ s6 g6 => pq_s (Or.inr ⟨ex_t h4 g6 rfl, ?_⟩))
  rw [fr_e g6 73 a1.toNatClampNeg 73 rfl rfl]
  exact t4
theorem th_d (a2 : Int32) (w : Int32) {s : Sg} (h : EX a2.toNatClampNeg w s) : PQ (f_X1_takeHouse_73 a2 s) (fun _ s9 => EX a2.toNatClampNeg w s9) := by
  unfold f_X1_takeHouse_73
  refine pq_b (ft_X7_findName_25 100 s) (fun r1 s2 g2 => ?_)
  have h2 := ex_t h g2 rfl
  refine pq_if (fun _ => pq_s h2) (fun _ => pq_b (ft_X4_isGone _ _) (fun r3 s4 g4 => ?_))
  have h4 := ex_t h2 g4 rfl
  refine pq_if (fun _ => pq_c (fun _ => pq_n (fun s6 e6 => ?_))) (fun _ => pq_b (ft_X7_wrong _ _) (fun r9 s10 g10 => pq_c (fun _ => pq_s (ex_t h4 g10 rfl))))
  have h6 : EX a2.toNatClampNeg w s6 := by rw [e6]; exact ex_th h4
  exact pq_b (ft_X7_advance _) (fun _ s8 g8 => pq_s (ex_t h6 g8 rfl))
theorem tt_40 (a1 : Int32) (w : Int32) {s : Sg} (h : EX a1.toNatClampNeg w s) : PQ (f_X1_takeTest_b40 a1 s) (fun _ s9 => EX a1.toNatClampNeg w s9) := by
  unfold f_X1_takeTest_b40
  refine pq_b (ft_X7_advance _) (fun _ s4 g4 => ?_)
  have h4 := ex_t h g4 rfl
  refine pq_b (ft_X7_findName_25 104 s4) (fun r5 s6 g6 => ?_)
  have h6 := ex_t h4 g6 rfl
  refine pq_if (fun _ => pq_s h6) (fun _ => pq_c (fun _ => pq_n (fun s8 e8 => ?_)))
  have h8 : EX a1.toNatClampNeg w s8 := by rw [e8]; exact ex_th h6
  exact pq_b (ft_X7_advance _) (fun _ s10 g10 => pq_s (ex_t h8 g10 rfl))
theorem tt_180 (a1 : Int32) (w : Int32) {s : Sg} (h : EX a1.toNatClampNeg w s) : PQ (f_X1_takeTest_b180 a1 s) (fun _ s9 => EX a1.toNatClampNeg w s9) := by
  unfold f_X1_takeTest_b180
  refine pq_b (ft_X7_advance _) (fun _ s17 g17 => ?_)
  have h17 := ex_t h g17 rfl
  refine pq_b (ft_X7_passNumber _ _ _) (fun r18 s19 g19 => ?_)
  have h19 := ex_t h17 g19 rfl
  refine pq_c (fun _ => pq_n (fun s21 e21 => pq_c (fun _ => pq_s ?_)))
  rw [e21]
  exact ex_i h19 74 rfl (by decide +kernel)
theorem tt_d (a1 : Int32) (w : Int32) {s : Sg} (h : EX a1.toNatClampNeg w s) : PQ (f_X1_takeTest a1 s) (fun _ s9 => EX a1.toNatClampNeg w s9) := by
  unfold f_X1_takeTest
  refine pq_c (fun _ => pq_n (fun s2 e2 => ?_))
  have h2 : EX a1.toNatClampNeg w s2 := by rw [e2]; exact ex_i h 76 rfl (by decide +kernel)
  refine pq_if (fun _ => tt_40 a1 w h2) (fun _ => pq_if (fun _ => tt_40 a1 w h2) (fun _ => pq_b (ft_X7_pass _ _) (fun r11 s12 g12 => ?_)))
  have h12 := ex_t h2 g12 rfl
  refine pq_if (fun _ => pq_s h12) (fun _ => pq_b (th_d a1 w h12) (fun r13 s14 h14 => ?_))
  refine pq_if (fun _ => pq_s h14) (fun _ => pq_n (fun s15 e15 => ?_))
  have h15 : EX a1.toNatClampNeg w s15 := by rw [e15]; exact ex_i h14 76 rfl (by decide +kernel)
  refine pq_if (fun _ => tt_180 a1 w h15) (fun _ => pq_if (fun _ => tt_180 a1 w h15) (fun _ => pq_if (fun _ => tt_180 a1 w h15) (fun _ => ?_)))
  exact pq_b (ft_X7_wrong _ _) (fun r22 s23 g23 => pq_c (fun _ => pq_s (ex_t h15 g23 rfl)))
theorem ts_249 (v2 : Int32) {s : Sg} (h : DD s) : PQ (f_X1_takeStep_b249 v2 s) (fun _ s9 => DD s9) := by
  unfold f_X1_takeStep_b249
  refine pq_if (fun _ => pq_s h) (fun _ => pq_b (ft_X7_pass _ _) (fun r6 s7 g7 => ?_))
  have h7 := dd_t h g7 rfl
  exact pq_if (fun _ => pq_s h7) (fun _ => pq_s h7)
theorem ts_z (s : Sg) : PQ (f_X1_takeStep_b249 0 s) (fun r _ => r = 0) := by
  unfold f_X1_takeStep_b249
  exact pq_if (fun _ => pq_s rfl) (fun c => absurd rfl c)
theorem ts_d {s : Sg} (h : DD s) : PQ (f_X1_takeStep s) (fun r s9 => r = 0 ∨ DD s9) := by
  unfold f_X1_takeStep
  refine pq_b (bs_d h) (fun r1 s2 g2 => pq_if (fun _ => pq_s (Or.inl rfl)) (fun c => pq_c (fun _ => ?_)))
  have h2 : EX (s.1 54 7).toNatClampNeg (s.1 7 3) s2 := g2.elim (fun e => absurd e c) id
  have kw := h2.2.2
  have fin : ∀ (v : Int32) (s' : Sg), DD s' → PQ (f_X1_takeStep_b249 v s') (fun r s9 => r = 0 ∨ DD s9) := fun v s' d => pq_w (ts_249 v d) (fun _ _ g => Or.inr g)
  have dn : ∀ (x : Int32), s2.1 72 (s.1 54 7).toNatClampNeg = x → ¬ x = 119 → ∀ s', EX (s.1 54 7).toNatClampNeg (s.1 7 3) s' → DD s' := fun x e n s' d => ex_d d (fun q => n (e ▸ (kw.trans q)))
  refine pq_if (fun e => pq_b (ft_X1_takeNumber _ _ _ _) (fun r4 s5 g5 => fin _ _ (dn _ e (by decide) _ (ex_t h2 g5 rfl)))) (fun _ => ?_)
  refine pq_if (fun e => fin _ _ (dn _ e (by decide) _ h2)) (fun _ => ?_)
  refine pq_if (fun e => fin _ _ (dn _ e (by decide) _ h2)) (fun _ => ?_)
  refine pq_if (fun e => ?_) (fun n9 => ?_)
  · refine pq_b (tg_d _ _ h2) (fun r8 s9 g9 => pq_if (fun _ => pq_w (ts_z _) (fun _ _ g => Or.inl g)) (fun c8 => ?_))
    have h9 := g9.elim (fun e => absurd e c8) id
    refine pq_b (ft_X1_takeNumber _ _ _ _) (fun r10 s11 g11 => pq_if (fun _ => pq_w (ts_z _) (fun _ _ g => Or.inl g)) (fun _ => ?_))
    refine pq_b (ft_X7_pass _ _) (fun r12 s13 g13 => pq_if (fun _ => pq_w (ts_z _) (fun _ _ g => Or.inl g)) (fun _ => ?_))
    refine pq_b (ft_X1_takeHouse_75 _ _) (fun r14 s15 g15 => pq_if (fun _ => pq_w (ts_z _) (fun _ _ g => Or.inl g)) (fun _ => ?_))
    refine fin _ _ (ex_g (ex_t (ex_t (ex_t h9.1 g11 rfl) g13 rfl) g15 rfl) ?_)
    rw [fr_e g15 73 _ 73 rfl rfl, fr_e g13 73 _ 73 rfl rfl, fr_e g11 73 _ 73 rfl rfl]
    exact h9.2
  refine pq_if (fun e => ?_) (fun _ => ?_)
  · refine pq_b (th_d _ _ h2) (fun r16 s17 h17 => pq_if (fun _ => pq_w (ts_z _) (fun _ _ g => Or.inl g)) (fun _ => ?_))
    refine pq_b (ft_X1_takeNumber _ _ _ _) (fun r18 s19 g19 => pq_if (fun _ => pq_w (ts_z _) (fun _ _ g => Or.inl g)) (fun _ => ?_))
    exact fin _ _ (dn _ e (by decide) _ (ex_t h17 g19 rfl))
  refine pq_if (fun e => pq_b (th_d _ _ h2) (fun r20 s21 h21 => fin _ _ (dn _ e (by decide) _ h21))) (fun _ => ?_)
  refine pq_if (fun e => pq_b (ft_X1_takeNumber _ _ _ _) (fun r4 s5 g5 => fin _ _ (dn _ e (by decide) _ (ex_t h2 g5 rfl)))) (fun _ => ?_)
  refine pq_if (fun e => fin _ _ (dn _ e (by decide) _ h2)) (fun _ => ?_)
  refine pq_if (fun e => pq_b (tt_d _ _ h2) (fun r24 s25 h25 => fin _ _ (dn _ e (by decide) _ h25))) (fun _ => ?_)
  refine pq_if (fun e => fin _ _ (dn _ e (by decide) _ h2)) (fun _ => ?_)
  refine pq_if (fun e => fin _ _ (dn _ e (by decide) _ h2)) (fun _ => ?_)
  refine pq_if (fun e => fin _ _ (dn _ e (by decide) _ h2)) (fun _ => ?_)
  refine pq_if (fun e => pq_b (ft_X1_takeNumber _ _ _ _) (fun r4 s5 g5 => fin _ _ (dn _ e (by decide) _ (ex_t h2 g5 rfl)))) (fun _ => ?_)
  exact fin _ _ (dn _ rfl n9 _ h2)
theorem dt_22 (n : Nat) : ∀ (v1 : Int32) (s : Sg), DD s → PQ (f_X1_takeText_b22 n v1 s) (fun r s9 => r = 0 ∨ DD s9) := by
  induction n with
  | zero => intro v1 s _ r s9 e; cases e
  | succ n ih =>
    intro v1 s h
    unfold f_X1_takeText_b22
    refine pq_if (fun _ => wr_0 _ _) (fun _ => pq_if (fun _ => pq_if (fun _ => pq_s (Or.inr h)) (fun _ => ?_)) (fun _ => pq_if (fun _ => ?_) (fun _ => ?_)))
    · exact pq_b (wr_z _ _) (fun r5 s6 g => pq_if (fun _ => pq_s (Or.inl rfl)) (fun c => absurd g c))
    · exact pq_b (te_d h) (fun r7 s8 g => pq_if (fun _ => pq_s (Or.inl rfl)) (fun c => ih _ _ (g.elim (fun e => absurd e c) id)))
    · exact pq_b (ts_d h) (fun r7 s8 g => pq_if (fun _ => pq_s (Or.inl rfl)) (fun c => ih _ _ (g.elim (fun e => absurd e c) id)))
theorem dt_g {s : Sg} (h : GrocW 24 s) : PQ (f_X1_takeText s) (fun r s9 => r = 0 ∨ DD s9) := by
  unfold f_X1_takeText
  refine pq_b (pq_and (cl_54 s) (ft_X5_clear_54 s)) (fun _ s2 g2 => dt_22 BIG 0 _ ⟨⟨fun k k1 k2 => ?_, by rw [q_nc rfl, q_ne rfl, g2.1]; decide⟩, fun k k1 _ => ?_⟩)
  · have k1 : (k : Int) < ((pI (pI s2 54 6 1) 9 4 0).1 25 12).toInt := k1
    have k2 : (pI (pI s2 54 6 1) 9 4 0).1 29 k = 112 := k2
    show ((pI (pI s2 54 6 1) 9 4 0).1 30 k).toInt ≤ 3
    rw [q_nc rfl, q_nc rfl, fr_e g2.2 25 12 25 rfl rfl] at k1
    rw [q_nc rfl, q_nc rfl, fr_e g2.2 29 k 29 rfl rfl] at k2
    rw [q_nc rfl, q_nc rfl, fr_e g2.2 30 k 30 rfl rfl]
    exact h k k1 k2
  · rw [q_nc rfl, q_ne rfl, g2.1] at k1
    have e : (0 : Int32).toInt = 0 := rfl
    omega
theorem c_X11_copyRow_29_56 (s : Sg) : PQ (f_X11_copyRow_29_56 s) (fun _ s9 => s9 = pA s 29 (va_cpy (s.1 56) (s.1 29) 0 0 24)) := by
  unfold f_X11_copyRow_29_56
  exact pq_c (fun _ => pq_s rfl)
theorem c_X11_copyRow_30_57 (s : Sg) : PQ (f_X11_copyRow_30_57 s) (fun _ s9 => s9 = pA s 30 (va_cpy (s.1 57) (s.1 30) 0 0 24)) := by
  unfold f_X11_copyRow_30_57
  exact pq_c (fun _ => pq_s rfl)
theorem c_X11_copyRow_31_58 (s : Sg) : PQ (f_X11_copyRow_31_58 s) (fun _ s9 => s9 = pA s 31 (va_cpy (s.1 58) (s.1 31) 0 0 8)) := by
  unfold f_X11_copyRow_31_58
  exact pq_c (fun _ => pq_s rfl)
theorem c_X11_copyRow_32_59 (s : Sg) : PQ (f_X11_copyRow_32_59 s) (fun _ s9 => s9 = pA s 32 (va_cpy (s.1 59) (s.1 32) 0 0 8)) := by
  unfold f_X11_copyRow_32_59
  exact pq_c (fun _ => pq_s rfl)
theorem c_X11_copyRow_33_60 (s : Sg) : PQ (f_X11_copyRow_33_60 s) (fun _ s9 => s9 = pA s 33 (va_cpy (s.1 60) (s.1 33) 0 0 8)) := by
  unfold f_X11_copyRow_33_60
  exact pq_c (fun _ => pq_s rfl)
theorem c_X11_copyRow_34_61 (s : Sg) : PQ (f_X11_copyRow_34_61 s) (fun _ s9 => s9 = pA s 34 (va_cpy (s.1 61) (s.1 34) 0 0 8)) := by
  unfold f_X11_copyRow_34_61
  exact pq_c (fun _ => pq_s rfl)
theorem c_X11_copyRow_35_62 (s : Sg) : PQ (f_X11_copyRow_35_62 s) (fun _ s9 => s9 = pA s 35 (va_cpy (s.1 62) (s.1 35) 0 0 4)) := by
  unfold f_X11_copyRow_35_62
  exact pq_c (fun _ => pq_s rfl)
theorem c_X11_copyRow_36_63 (s : Sg) : PQ (f_X11_copyRow_36_63 s) (fun _ s9 => s9 = pA s 36 (va_cpy (s.1 63) (s.1 36) 0 0 4)) := by
  unfold f_X11_copyRow_36_63
  exact pq_c (fun _ => pq_s rfl)
theorem c_X11_copyRow_37_64 (s : Sg) : PQ (f_X11_copyRow_37_64 s) (fun _ s9 => s9 = pA s 37 (va_cpy (s.1 64) (s.1 37) 0 0 4)) := by
  unfold f_X11_copyRow_37_64
  exact pq_c (fun _ => pq_s rfl)
theorem c_X11_copyRow_38_65 (s : Sg) : PQ (f_X11_copyRow_38_65 s) (fun _ s9 => s9 = pA s 38 (va_cpy (s.1 65) (s.1 38) 0 0 4)) := by
  unfold f_X11_copyRow_38_65
  exact pq_c (fun _ => pq_s rfl)
theorem c_X11_copyRow_39_66 (s : Sg) : PQ (f_X11_copyRow_39_66 s) (fun _ s9 => s9 = pA s 39 (va_cpy (s.1 66) (s.1 39) 0 0 4)) := by
  unfold f_X11_copyRow_39_66
  exact pq_c (fun _ => pq_s rfl)
theorem c_X4_copyFrom_52 (s : Sg) : PQ (f_X4_copyFrom_52 s) (fun _ s9 => (∀ k, k < 24 → s9.1 29 k = s.1 56 k) ∧ (∀ k, k < 24 → s9.1 30 k = s.1 57 k) ∧ s9.1 25 12 = s.1 52 12) := by
  unfold f_X4_copyFrom_52
  refine pq_b (c_X11_copyRow_29_56 _) (fun _ s2 hs2 => ?_)
  refine pq_b (c_X11_copyRow_30_57 _) (fun _ s4 hs4 => ?_)
  refine pq_b (c_X11_copyRow_31_58 _) (fun _ s6 hs6 => ?_)
  refine pq_b (c_X11_copyRow_32_59 _) (fun _ s8 hs8 => ?_)
  refine pq_b (c_X11_copyRow_33_60 _) (fun _ s10 hs10 => ?_)
  refine pq_b (c_X11_copyRow_34_61 _) (fun _ s12 hs12 => ?_)
  refine pq_b (c_X11_copyRow_35_62 _) (fun _ s14 hs14 => ?_)
  refine pq_b (c_X11_copyRow_36_63 _) (fun _ s16 hs16 => ?_)
  refine pq_b (c_X11_copyRow_37_64 _) (fun _ s18 hs18 => ?_)
  refine pq_b (c_X11_copyRow_38_65 _) (fun _ s20 hs20 => ?_)
  refine pq_b (c_X11_copyRow_39_66 _) (fun _ s22 hs22 => ?_)
  refine pq_n (fun s23 es23 => ?_)
  refine pq_n (fun s24 es24 => ?_)
  refine pq_n (fun s25 es25 => ?_)
  refine pq_c (fun _ => ?_)
  exact pq_s ⟨fun k hk => (q_nc (c' := 29) (k' := k) rfl).trans ((q_nc (c' := 29) (k' := k) rfl).trans ((congrArg (fun z : Sg => z.1 29 k) es25).trans ((q_nc (c' := 29) (k' := k) rfl).trans ((q_nc (c' := 29) (k' := k) rfl).trans ((congrArg (fun z : Sg => z.1 29 k) es24).trans ((q_nc (c' := 29) (k' := k) rfl).trans ((q_nc (c' := 29) (k' := k) rfl).trans ((congrArg (fun z : Sg => z.1 29 k) es23).trans ((q_nc (c' := 29) (k' := k) rfl).trans ((q_nc (c' := 29) (k' := k) rfl).trans ((cp_ne (c := 29) (k := k) hs22 rfl).trans ((cp_ne (c := 29) (k := k) hs20 rfl).trans ((cp_ne (c := 29) (k := k) hs18 rfl).trans ((cp_ne (c := 29) (k := k) hs16 rfl).trans ((cp_ne (c := 29) (k := k) hs14 rfl).trans ((cp_ne (c := 29) (k := k) hs12 rfl).trans ((cp_ne (c := 29) (k := k) hs10 rfl).trans ((cp_ne (c := 29) (k := k) hs8 rfl).trans ((cp_ne (c := 29) (k := k) hs6 rfl).trans ((cp_ne (c := 29) (k := k) hs4 rfl).trans (cp_at (s := pB s 28 (va_cpy (s.2 55) (s.2 28) 0 0 24)) hs2 hk))))))))))))))))))))), fun k hk => (q_nc (c' := 30) (k' := k) rfl).trans ((q_nc (c' := 30) (k' := k) rfl).trans ((congrArg (fun z : Sg => z.1 30 k) es25).trans ((q_nc (c' := 30) (k' := k) rfl).trans ((q_nc (c' := 30) (k' := k) rfl).trans ((congrArg (fun z : Sg => z.1 30 k) es24).trans ((q_nc (c' := 30) (k' := k) rfl).trans ((q_nc (c' := 30) (k' := k) rfl).trans ((congrArg (fun z : Sg => z.1 30 k) es23).trans ((q_nc (c' := 30) (k' := k) rfl).trans ((q_nc (c' := 30) (k' := k) rfl).trans ((cp_ne (c := 30) (k := k) hs22 rfl).trans ((cp_ne (c := 30) (k := k) hs20 rfl).trans ((cp_ne (c := 30) (k := k) hs18 rfl).trans ((cp_ne (c := 30) (k := k) hs16 rfl).trans ((cp_ne (c := 30) (k := k) hs14 rfl).trans ((cp_ne (c := 30) (k := k) hs12 rfl).trans ((cp_ne (c := 30) (k := k) hs10 rfl).trans ((cp_ne (c := 30) (k := k) hs8 rfl).trans ((cp_ne (c := 30) (k := k) hs6 rfl).trans ((cp_at hs4 hk).trans (cp_ne (s := pB s 28 (va_cpy (s.2 55) (s.2 28) 0 0 24)) (c := 57) (k := k) hs2 rfl))))))))))))))))))))), (q_ne (c' := 25) (k' := 12) rfl).trans ((q_ne (c' := 25) (k' := 12) rfl).trans ((congrArg (fun z : Sg => z.1 25 12) es25).trans ((q_ne (c' := 25) (k' := 12) rfl).trans ((q_ne (c' := 25) (k' := 12) rfl).trans ((congrArg (fun z : Sg => z.1 25 12) es24).trans ((q_ne (c' := 25) (k' := 12) rfl).trans ((q_ne (c' := 25) (k' := 12) rfl).trans ((congrArg (fun z : Sg => z.1 25 12) es23).trans ((q_ne (c' := 25) (k' := 12) rfl).trans ((q_eq).trans ((cp_ne (c := 52) (k := 12) hs22 rfl).trans ((cp_ne (c := 52) (k := 12) hs20 rfl).trans ((cp_ne (c := 52) (k := 12) hs18 rfl).trans ((cp_ne (c := 52) (k := 12) hs16 rfl).trans ((cp_ne (c := 52) (k := 12) hs14 rfl).trans ((cp_ne (c := 52) (k := 12) hs12 rfl).trans ((cp_ne (c := 52) (k := 12) hs10 rfl).trans ((cp_ne (c := 52) (k := 12) hs8 rfl).trans ((cp_ne (c := 52) (k := 12) hs6 rfl).trans ((cp_ne (c := 52) (k := 12) hs4 rfl).trans (cp_ne (s := pB s 28 (va_cpy (s.2 55) (s.2 28) 0 0 24)) (c := 52) (k := 12) hs2 rfl)))))))))))))))))))))⟩
theorem c_X11_copyRow_40_67 (s : Sg) : PQ (f_X11_copyRow_40_67 s) (fun _ s9 => s9 = pA s 40 (va_cpy (s.1 67) (s.1 40) 0 0 8)) := by
  unfold f_X11_copyRow_40_67
  exact pq_c (fun _ => pq_s rfl)
theorem c_X11_copyRow_41_68 (s : Sg) : PQ (f_X11_copyRow_41_68 s) (fun _ s9 => s9 = pA s 41 (va_cpy (s.1 68) (s.1 41) 0 0 8)) := by
  unfold f_X11_copyRow_41_68
  exact pq_c (fun _ => pq_s rfl)
theorem c_X11_copyRow_42_69 (s : Sg) : PQ (f_X11_copyRow_42_69 s) (fun _ s9 => s9 = pA s 42 (va_cpy (s.1 69) (s.1 42) 0 0 8)) := by
  unfold f_X11_copyRow_42_69
  exact pq_c (fun _ => pq_s rfl)
theorem c_X11_copyRow_43_70 (s : Sg) : PQ (f_X11_copyRow_43_70 s) (fun _ s9 => s9 = pA s 43 (va_cpy (s.1 70) (s.1 43) 0 0 8)) := by
  unfold f_X11_copyRow_43_70
  exact pq_c (fun _ => pq_s rfl)
theorem c_X11_copyRow_44_71 (s : Sg) : PQ (f_X11_copyRow_44_71 s) (fun _ s9 => s9 = pA s 44 (va_cpy (s.1 71) (s.1 44) 0 0 4)) := by
  unfold f_X11_copyRow_44_71
  exact pq_c (fun _ => pq_s rfl)
theorem c_X11_copyRow_45_72 (s : Sg) : PQ (f_X11_copyRow_45_72 s) (fun _ s9 => s9 = pA s 45 (va_cpy (s.1 72) (s.1 45) 0 0 60)) := by
  unfold f_X11_copyRow_45_72
  exact pq_c (fun _ => pq_s rfl)
theorem c_X11_copyRow_46_73 (s : Sg) : PQ (f_X11_copyRow_46_73 s) (fun _ s9 => s9 = pA s 46 (va_cpy (s.1 73) (s.1 46) 0 0 60)) := by
  unfold f_X11_copyRow_46_73
  exact pq_c (fun _ => pq_s rfl)
theorem c_X11_copyRow_47_74 (s : Sg) : PQ (f_X11_copyRow_47_74 s) (fun _ s9 => s9 = pA s 47 (va_cpy (s.1 74) (s.1 47) 0 0 60)) := by
  unfold f_X11_copyRow_47_74
  exact pq_c (fun _ => pq_s rfl)
theorem c_X11_copyRow_48_75 (s : Sg) : PQ (f_X11_copyRow_48_75 s) (fun _ s9 => s9 = pA s 48 (va_cpy (s.1 75) (s.1 48) 0 0 60)) := by
  unfold f_X11_copyRow_48_75
  exact pq_c (fun _ => pq_s rfl)
theorem c_X11_copyRow_49_76 (s : Sg) : PQ (f_X11_copyRow_49_76 s) (fun _ s9 => s9 = pA s 49 (va_cpy (s.1 76) (s.1 49) 0 0 60)) := by
  unfold f_X11_copyRow_49_76
  exact pq_c (fun _ => pq_s rfl)
theorem c_X11_copyRow_50_77 (s : Sg) : PQ (f_X11_copyRow_50_77 s) (fun _ s9 => s9 = pA s 50 (va_cpy (s.1 77) (s.1 50) 0 0 60)) := by
  unfold f_X11_copyRow_50_77
  exact pq_c (fun _ => pq_s rfl)
theorem c_X5_copyFrom_54 (s : Sg) : PQ (f_X5_copyFrom_54 s) (fun _ s9 => (∀ k, k < 60 → s9.1 45 k = s.1 72 k) ∧ (∀ k, k < 60 → s9.1 46 k = s.1 73 k) ∧ s9.1 27 7 = s.1 54 7) := by
  unfold f_X5_copyFrom_54
  refine pq_b (c_X11_copyRow_45_72 _) (fun _ s2 hs2 => ?_)
  refine pq_b (c_X11_copyRow_46_73 _) (fun _ s4 hs4 => ?_)
  refine pq_b (c_X11_copyRow_47_74 _) (fun _ s6 hs6 => ?_)
  refine pq_b (c_X11_copyRow_48_75 _) (fun _ s8 hs8 => ?_)
  refine pq_b (c_X11_copyRow_49_76 _) (fun _ s10 hs10 => ?_)
  refine pq_b (c_X11_copyRow_50_77 _) (fun _ s12 hs12 => ?_)
  refine pq_c (fun _ => ?_)
  refine pq_n (fun s14 es14 => ?_)
  exact pq_s ⟨fun k hk => (q_nc (c' := 45) (k' := k) rfl).trans ((congrArg (fun z : Sg => z.1 45 k) es14).trans ((q_nc (c' := 45) (k' := k) rfl).trans ((q_nc (c' := 45) (k' := k) rfl).trans ((cp_ne (c := 45) (k := k) hs12 rfl).trans ((cp_ne (c := 45) (k := k) hs10 rfl).trans ((cp_ne (c := 45) (k := k) hs8 rfl).trans ((cp_ne (c := 45) (k := k) hs6 rfl).trans ((cp_ne (c := 45) (k := k) hs4 rfl).trans (cp_at hs2 hk))))))))), fun k hk => (q_nc (c' := 46) (k' := k) rfl).trans ((congrArg (fun z : Sg => z.1 46 k) es14).trans ((q_nc (c' := 46) (k' := k) rfl).trans ((q_nc (c' := 46) (k' := k) rfl).trans ((cp_ne (c := 46) (k := k) hs12 rfl).trans ((cp_ne (c := 46) (k := k) hs10 rfl).trans ((cp_ne (c := 46) (k := k) hs8 rfl).trans ((cp_ne (c := 46) (k := k) hs6 rfl).trans ((cp_at hs4 hk).trans (cp_ne (c := 73) (k := k) hs2 rfl))))))))), (q_ne (c' := 27) (k' := 7) rfl).trans ((congrArg (fun z : Sg => z.1 27 7) es14).trans ((q_eq).trans ((q_nc (c' := 54) (k' := 7) rfl).trans ((cp_ne (c := 54) (k := 7) hs12 rfl).trans ((cp_ne (c := 54) (k := 7) hs10 rfl).trans ((cp_ne (c := 54) (k := 7) hs8 rfl).trans ((cp_ne (c := 54) (k := 7) hs6 rfl).trans ((cp_ne (c := 54) (k := 7) hs4 rfl).trans (cp_ne (c := 54) (k := 7) hs2 rfl)))))))))⟩
theorem c_X10_copyFrom_51 {s : Sg} (h : WkC 51 s) (r1 : (s.1 52 12).toInt ≤ 24) (r2 : (s.1 54 7).toInt ≤ 60) : PQ (f_X10_copyFrom_51 s) (fun _ s9 => WkC 24 s9) := by
  unfold f_X10_copyFrom_51
  refine pq_b (pq_and (c_X4_copyFrom_52 s) (ft_X4_copyFrom_52 s)) (fun _ s2 g2 => pq_b (ft_X2_copyFrom_53 s2) (fun _ s4 g4 => pq_b (pq_and (c_X5_copyFrom_54 s4) (ft_X5_copyFrom_54 s4)) (fun _ s6 g6 => pq_s ?_)))
  exact wk_cp h r1 r2 ((fr_e g6.2 25 12 25 rfl rfl).trans ((fr_e g4 25 12 25 rfl rfl).trans g2.1.2.2)) (fun k hk => (fr_e g6.2 29 k 29 rfl rfl).trans ((fr_e g4 29 k 29 rfl rfl).trans (g2.1.1 k hk))) (fun k hk => (fr_e g6.2 30 k 30 rfl rfl).trans ((fr_e g4 30 k 30 rfl rfl).trans (g2.1.2.1 k hk))) (g6.1.2.2.trans ((fr_e g4 54 7 219 rfl rfl).trans (fr_e g2.2 54 7 219 rfl rfl))) (fun k hk => (g6.1.1 k hk).trans ((fr_e g4 72 k 72 rfl rfl).trans (fr_e g2.2 72 k 72 rfl rfl))) (fun k hk => (g6.1.2.1 k hk).trans ((fr_e g4 73 k 73 rfl rfl).trans (fr_e g2.2 73 k 73 rfl rfl)))
theorem c_X11_copyRow_67_40 (s : Sg) : PQ (f_X11_copyRow_67_40 s) (fun _ s9 => s9 = pA s 67 (va_cpy (s.1 40) (s.1 67) 0 0 8)) := by
  unfold f_X11_copyRow_67_40
  exact pq_c (fun _ => pq_s rfl)
theorem c_X11_copyRow_68_41 (s : Sg) : PQ (f_X11_copyRow_68_41 s) (fun _ s9 => s9 = pA s 68 (va_cpy (s.1 41) (s.1 68) 0 0 8)) := by
  unfold f_X11_copyRow_68_41
  exact pq_c (fun _ => pq_s rfl)
theorem c_X11_copyRow_69_42 (s : Sg) : PQ (f_X11_copyRow_69_42 s) (fun _ s9 => s9 = pA s 69 (va_cpy (s.1 42) (s.1 69) 0 0 8)) := by
  unfold f_X11_copyRow_69_42
  exact pq_c (fun _ => pq_s rfl)
theorem c_X11_copyRow_70_43 (s : Sg) : PQ (f_X11_copyRow_70_43 s) (fun _ s9 => s9 = pA s 70 (va_cpy (s.1 43) (s.1 70) 0 0 8)) := by
  unfold f_X11_copyRow_70_43
  exact pq_c (fun _ => pq_s rfl)
theorem c_X11_copyRow_71_44 (s : Sg) : PQ (f_X11_copyRow_71_44 s) (fun _ s9 => s9 = pA s 71 (va_cpy (s.1 44) (s.1 71) 0 0 4)) := by
  unfold f_X11_copyRow_71_44
  exact pq_c (fun _ => pq_s rfl)
theorem c_X11_copyRow_83_29 (s : Sg) : PQ (f_X11_copyRow_83_29 s) (fun _ s9 => s9 = pA s 83 (va_cpy (s.1 29) (s.1 83) 0 0 24)) := by
  unfold f_X11_copyRow_83_29
  exact pq_c (fun _ => pq_s rfl)
theorem c_X11_copyRow_84_30 (s : Sg) : PQ (f_X11_copyRow_84_30 s) (fun _ s9 => s9 = pA s 84 (va_cpy (s.1 30) (s.1 84) 0 0 24)) := by
  unfold f_X11_copyRow_84_30
  exact pq_c (fun _ => pq_s rfl)
theorem c_X11_copyRow_85_31 (s : Sg) : PQ (f_X11_copyRow_85_31 s) (fun _ s9 => s9 = pA s 85 (va_cpy (s.1 31) (s.1 85) 0 0 8)) := by
  unfold f_X11_copyRow_85_31
  exact pq_c (fun _ => pq_s rfl)
theorem c_X11_copyRow_86_32 (s : Sg) : PQ (f_X11_copyRow_86_32 s) (fun _ s9 => s9 = pA s 86 (va_cpy (s.1 32) (s.1 86) 0 0 8)) := by
  unfold f_X11_copyRow_86_32
  exact pq_c (fun _ => pq_s rfl)
theorem c_X11_copyRow_87_33 (s : Sg) : PQ (f_X11_copyRow_87_33 s) (fun _ s9 => s9 = pA s 87 (va_cpy (s.1 33) (s.1 87) 0 0 8)) := by
  unfold f_X11_copyRow_87_33
  exact pq_c (fun _ => pq_s rfl)
theorem c_X11_copyRow_88_34 (s : Sg) : PQ (f_X11_copyRow_88_34 s) (fun _ s9 => s9 = pA s 88 (va_cpy (s.1 34) (s.1 88) 0 0 8)) := by
  unfold f_X11_copyRow_88_34
  exact pq_c (fun _ => pq_s rfl)
theorem c_X11_copyRow_89_35 (s : Sg) : PQ (f_X11_copyRow_89_35 s) (fun _ s9 => s9 = pA s 89 (va_cpy (s.1 35) (s.1 89) 0 0 4)) := by
  unfold f_X11_copyRow_89_35
  exact pq_c (fun _ => pq_s rfl)
theorem c_X11_copyRow_90_36 (s : Sg) : PQ (f_X11_copyRow_90_36 s) (fun _ s9 => s9 = pA s 90 (va_cpy (s.1 36) (s.1 90) 0 0 4)) := by
  unfold f_X11_copyRow_90_36
  exact pq_c (fun _ => pq_s rfl)
theorem c_X11_copyRow_91_37 (s : Sg) : PQ (f_X11_copyRow_91_37 s) (fun _ s9 => s9 = pA s 91 (va_cpy (s.1 37) (s.1 91) 0 0 4)) := by
  unfold f_X11_copyRow_91_37
  exact pq_c (fun _ => pq_s rfl)
theorem c_X11_copyRow_92_38 (s : Sg) : PQ (f_X11_copyRow_92_38 s) (fun _ s9 => s9 = pA s 92 (va_cpy (s.1 38) (s.1 92) 0 0 4)) := by
  unfold f_X11_copyRow_92_38
  exact pq_c (fun _ => pq_s rfl)
theorem c_X11_copyRow_93_39 (s : Sg) : PQ (f_X11_copyRow_93_39 s) (fun _ s9 => s9 = pA s 93 (va_cpy (s.1 39) (s.1 93) 0 0 4)) := by
  unfold f_X11_copyRow_93_39
  exact pq_c (fun _ => pq_s rfl)
theorem c_X4_copyFrom_25_79 (s : Sg) : PQ (f_X4_copyFrom_25_79 s) (fun _ s9 => (∀ k, k < 24 → s9.1 83 k = s.1 29 k) ∧ (∀ k, k < 24 → s9.1 84 k = s.1 30 k) ∧ s9.1 79 12 = s.1 25 12) := by
  unfold f_X4_copyFrom_25_79
  refine pq_b (c_X11_copyRow_83_29 _) (fun _ s2 hs2 => ?_)
  refine pq_b (c_X11_copyRow_84_30 _) (fun _ s4 hs4 => ?_)
  refine pq_b (c_X11_copyRow_85_31 _) (fun _ s6 hs6 => ?_)
  refine pq_b (c_X11_copyRow_86_32 _) (fun _ s8 hs8 => ?_)
  refine pq_b (c_X11_copyRow_87_33 _) (fun _ s10 hs10 => ?_)
  refine pq_b (c_X11_copyRow_88_34 _) (fun _ s12 hs12 => ?_)
  refine pq_b (c_X11_copyRow_89_35 _) (fun _ s14 hs14 => ?_)
  refine pq_b (c_X11_copyRow_90_36 _) (fun _ s16 hs16 => ?_)
  refine pq_b (c_X11_copyRow_91_37 _) (fun _ s18 hs18 => ?_)
  refine pq_b (c_X11_copyRow_92_38 _) (fun _ s20 hs20 => ?_)
  refine pq_b (c_X11_copyRow_93_39 _) (fun _ s22 hs22 => ?_)
  refine pq_n (fun s23 es23 => ?_)
  refine pq_n (fun s24 es24 => ?_)
  refine pq_n (fun s25 es25 => ?_)
  refine pq_c (fun _ => ?_)
  exact pq_s ⟨fun k hk => (q_nc (c' := 83) (k' := k) rfl).trans ((q_nc (c' := 83) (k' := k) rfl).trans ((congrArg (fun z : Sg => z.1 83 k) es25).trans ((q_nc (c' := 83) (k' := k) rfl).trans ((q_nc (c' := 83) (k' := k) rfl).trans ((congrArg (fun z : Sg => z.1 83 k) es24).trans ((q_nc (c' := 83) (k' := k) rfl).trans ((q_nc (c' := 83) (k' := k) rfl).trans ((congrArg (fun z : Sg => z.1 83 k) es23).trans ((q_nc (c' := 83) (k' := k) rfl).trans ((q_nc (c' := 83) (k' := k) rfl).trans ((cp_ne (c := 83) (k := k) hs22 rfl).trans ((cp_ne (c := 83) (k := k) hs20 rfl).trans ((cp_ne (c := 83) (k := k) hs18 rfl).trans ((cp_ne (c := 83) (k := k) hs16 rfl).trans ((cp_ne (c := 83) (k := k) hs14 rfl).trans ((cp_ne (c := 83) (k := k) hs12 rfl).trans ((cp_ne (c := 83) (k := k) hs10 rfl).trans ((cp_ne (c := 83) (k := k) hs8 rfl).trans ((cp_ne (c := 83) (k := k) hs6 rfl).trans ((cp_ne (c := 83) (k := k) hs4 rfl).trans (cp_at (s := pB s 82 (va_cpy (s.2 28) (s.2 82) 0 0 24)) hs2 hk))))))))))))))))))))), fun k hk => (q_nc (c' := 84) (k' := k) rfl).trans ((q_nc (c' := 84) (k' := k) rfl).trans ((congrArg (fun z : Sg => z.1 84 k) es25).trans ((q_nc (c' := 84) (k' := k) rfl).trans ((q_nc (c' := 84) (k' := k) rfl).trans ((congrArg (fun z : Sg => z.1 84 k) es24).trans ((q_nc (c' := 84) (k' := k) rfl).trans ((q_nc (c' := 84) (k' := k) rfl).trans ((congrArg (fun z : Sg => z.1 84 k) es23).trans ((q_nc (c' := 84) (k' := k) rfl).trans ((q_nc (c' := 84) (k' := k) rfl).trans ((cp_ne (c := 84) (k := k) hs22 rfl).trans ((cp_ne (c := 84) (k := k) hs20 rfl).trans ((cp_ne (c := 84) (k := k) hs18 rfl).trans ((cp_ne (c := 84) (k := k) hs16 rfl).trans ((cp_ne (c := 84) (k := k) hs14 rfl).trans ((cp_ne (c := 84) (k := k) hs12 rfl).trans ((cp_ne (c := 84) (k := k) hs10 rfl).trans ((cp_ne (c := 84) (k := k) hs8 rfl).trans ((cp_ne (c := 84) (k := k) hs6 rfl).trans ((cp_at hs4 hk).trans (cp_ne (s := pB s 82 (va_cpy (s.2 28) (s.2 82) 0 0 24)) (c := 30) (k := k) hs2 rfl))))))))))))))))))))), (q_ne (c' := 79) (k' := 12) rfl).trans ((q_ne (c' := 79) (k' := 12) rfl).trans ((congrArg (fun z : Sg => z.1 79 12) es25).trans ((q_ne (c' := 79) (k' := 12) rfl).trans ((q_ne (c' := 79) (k' := 12) rfl).trans ((congrArg (fun z : Sg => z.1 79 12) es24).trans ((q_ne (c' := 79) (k' := 12) rfl).trans ((q_ne (c' := 79) (k' := 12) rfl).trans ((congrArg (fun z : Sg => z.1 79 12) es23).trans ((q_ne (c' := 79) (k' := 12) rfl).trans ((q_eq).trans ((cp_ne (c := 25) (k := 12) hs22 rfl).trans ((cp_ne (c := 25) (k := 12) hs20 rfl).trans ((cp_ne (c := 25) (k := 12) hs18 rfl).trans ((cp_ne (c := 25) (k := 12) hs16 rfl).trans ((cp_ne (c := 25) (k := 12) hs14 rfl).trans ((cp_ne (c := 25) (k := 12) hs12 rfl).trans ((cp_ne (c := 25) (k := 12) hs10 rfl).trans ((cp_ne (c := 25) (k := 12) hs8 rfl).trans ((cp_ne (c := 25) (k := 12) hs6 rfl).trans ((cp_ne (c := 25) (k := 12) hs4 rfl).trans (cp_ne (s := pB s 82 (va_cpy (s.2 28) (s.2 82) 0 0 24)) (c := 25) (k := 12) hs2 rfl)))))))))))))))))))))⟩
theorem c_X11_copyRow_94_40 (s : Sg) : PQ (f_X11_copyRow_94_40 s) (fun _ s9 => s9 = pA s 94 (va_cpy (s.1 40) (s.1 94) 0 0 8)) := by
  unfold f_X11_copyRow_94_40
  exact pq_c (fun _ => pq_s rfl)
theorem c_X11_copyRow_95_41 (s : Sg) : PQ (f_X11_copyRow_95_41 s) (fun _ s9 => s9 = pA s 95 (va_cpy (s.1 41) (s.1 95) 0 0 8)) := by
  unfold f_X11_copyRow_95_41
  exact pq_c (fun _ => pq_s rfl)
theorem c_X11_copyRow_96_42 (s : Sg) : PQ (f_X11_copyRow_96_42 s) (fun _ s9 => s9 = pA s 96 (va_cpy (s.1 42) (s.1 96) 0 0 8)) := by
  unfold f_X11_copyRow_96_42
  exact pq_c (fun _ => pq_s rfl)
theorem c_X11_copyRow_97_43 (s : Sg) : PQ (f_X11_copyRow_97_43 s) (fun _ s9 => s9 = pA s 97 (va_cpy (s.1 43) (s.1 97) 0 0 8)) := by
  unfold f_X11_copyRow_97_43
  exact pq_c (fun _ => pq_s rfl)
theorem c_X11_copyRow_98_44 (s : Sg) : PQ (f_X11_copyRow_98_44 s) (fun _ s9 => s9 = pA s 98 (va_cpy (s.1 44) (s.1 98) 0 0 4)) := by
  unfold f_X11_copyRow_98_44
  exact pq_c (fun _ => pq_s rfl)
theorem c_X11_copyRow_99_45 (s : Sg) : PQ (f_X11_copyRow_99_45 s) (fun _ s9 => s9 = pA s 99 (va_cpy (s.1 45) (s.1 99) 0 0 60)) := by
  unfold f_X11_copyRow_99_45
  exact pq_c (fun _ => pq_s rfl)
theorem c_X11_copyRow_100_46 (s : Sg) : PQ (f_X11_copyRow_100_46 s) (fun _ s9 => s9 = pA s 100 (va_cpy (s.1 46) (s.1 100) 0 0 60)) := by
  unfold f_X11_copyRow_100_46
  exact pq_c (fun _ => pq_s rfl)
theorem c_X11_copyRow_101_47 (s : Sg) : PQ (f_X11_copyRow_101_47 s) (fun _ s9 => s9 = pA s 101 (va_cpy (s.1 47) (s.1 101) 0 0 60)) := by
  unfold f_X11_copyRow_101_47
  exact pq_c (fun _ => pq_s rfl)
theorem c_X11_copyRow_102_48 (s : Sg) : PQ (f_X11_copyRow_102_48 s) (fun _ s9 => s9 = pA s 102 (va_cpy (s.1 48) (s.1 102) 0 0 60)) := by
  unfold f_X11_copyRow_102_48
  exact pq_c (fun _ => pq_s rfl)
theorem c_X11_copyRow_103_49 (s : Sg) : PQ (f_X11_copyRow_103_49 s) (fun _ s9 => s9 = pA s 103 (va_cpy (s.1 49) (s.1 103) 0 0 60)) := by
  unfold f_X11_copyRow_103_49
  exact pq_c (fun _ => pq_s rfl)
theorem c_X11_copyRow_104_50 (s : Sg) : PQ (f_X11_copyRow_104_50 s) (fun _ s9 => s9 = pA s 104 (va_cpy (s.1 50) (s.1 104) 0 0 60)) := by
  unfold f_X11_copyRow_104_50
  exact pq_c (fun _ => pq_s rfl)
theorem c_X5_copyFrom_27_81 (s : Sg) : PQ (f_X5_copyFrom_27_81 s) (fun _ s9 => (∀ k, k < 60 → s9.1 99 k = s.1 45 k) ∧ (∀ k, k < 60 → s9.1 100 k = s.1 46 k) ∧ s9.1 81 7 = s.1 27 7) := by
  unfold f_X5_copyFrom_27_81
  refine pq_b (c_X11_copyRow_99_45 _) (fun _ s2 hs2 => ?_)
  refine pq_b (c_X11_copyRow_100_46 _) (fun _ s4 hs4 => ?_)
  refine pq_b (c_X11_copyRow_101_47 _) (fun _ s6 hs6 => ?_)
  refine pq_b (c_X11_copyRow_102_48 _) (fun _ s8 hs8 => ?_)
  refine pq_b (c_X11_copyRow_103_49 _) (fun _ s10 hs10 => ?_)
  refine pq_b (c_X11_copyRow_104_50 _) (fun _ s12 hs12 => ?_)
  refine pq_c (fun _ => ?_)
  refine pq_n (fun s14 es14 => ?_)
  exact pq_s ⟨fun k hk => (q_nc (c' := 99) (k' := k) rfl).trans ((congrArg (fun z : Sg => z.1 99 k) es14).trans ((q_nc (c' := 99) (k' := k) rfl).trans ((q_nc (c' := 99) (k' := k) rfl).trans ((cp_ne (c := 99) (k := k) hs12 rfl).trans ((cp_ne (c := 99) (k := k) hs10 rfl).trans ((cp_ne (c := 99) (k := k) hs8 rfl).trans ((cp_ne (c := 99) (k := k) hs6 rfl).trans ((cp_ne (c := 99) (k := k) hs4 rfl).trans (cp_at hs2 hk))))))))), fun k hk => (q_nc (c' := 100) (k' := k) rfl).trans ((congrArg (fun z : Sg => z.1 100 k) es14).trans ((q_nc (c' := 100) (k' := k) rfl).trans ((q_nc (c' := 100) (k' := k) rfl).trans ((cp_ne (c := 100) (k := k) hs12 rfl).trans ((cp_ne (c := 100) (k := k) hs10 rfl).trans ((cp_ne (c := 100) (k := k) hs8 rfl).trans ((cp_ne (c := 100) (k := k) hs6 rfl).trans ((cp_at hs4 hk).trans (cp_ne (c := 46) (k := k) hs2 rfl))))))))), (q_ne (c' := 81) (k' := 7) rfl).trans ((congrArg (fun z : Sg => z.1 81 7) es14).trans ((q_eq).trans ((q_nc (c' := 27) (k' := 7) rfl).trans ((cp_ne (c := 27) (k := 7) hs12 rfl).trans ((cp_ne (c := 27) (k := 7) hs10 rfl).trans ((cp_ne (c := 27) (k := 7) hs8 rfl).trans ((cp_ne (c := 27) (k := 7) hs6 rfl).trans ((cp_ne (c := 27) (k := 7) hs4 rfl).trans (cp_ne (c := 27) (k := 7) hs2 rfl)))))))))⟩
theorem c_X10_copyFrom_24_78 {s : Sg} (h : WkC 24 s) (r1 : (s.1 25 12).toInt ≤ 24) (r2 : (s.1 27 7).toInt ≤ 60) : PQ (f_X10_copyFrom_24_78 s) (fun _ s9 => WkC 78 s9) := by
  unfold f_X10_copyFrom_24_78
  refine pq_b (pq_and (c_X4_copyFrom_25_79 s) (ft_X4_copyFrom_25_79 s)) (fun _ s2 g2 => pq_b (ft_X2_copyFrom_26_80 s2) (fun _ s4 g4 => pq_b (pq_and (c_X5_copyFrom_27_81 s4) (ft_X5_copyFrom_27_81 s4)) (fun _ s6 g6 => pq_s ?_)))
  exact wk_cp h r1 r2 ((fr_e g6.2 79 12 79 rfl rfl).trans ((fr_e g4 79 12 79 rfl rfl).trans g2.1.2.2)) (fun k hk => (fr_e g6.2 83 k 83 rfl rfl).trans ((fr_e g4 83 k 83 rfl rfl).trans (g2.1.1 k hk))) (fun k hk => (fr_e g6.2 84 k 84 rfl rfl).trans ((fr_e g4 84 k 84 rfl rfl).trans (g2.1.2.1 k hk))) (g6.1.2.2.trans ((fr_e g4 27 7 27 rfl rfl).trans (fr_e g2.2 27 7 27 rfl rfl))) (fun k hk => (g6.1.1 k hk).trans ((fr_e g4 45 k 45 rfl rfl).trans (fr_e g2.2 45 k 45 rfl rfl))) (fun k hk => (g6.1.2.1 k hk).trans ((fr_e g4 46 k 46 rfl rfl).trans (fr_e g2.2 46 k 46 rfl rfl)))
theorem c_X11_copyRow_110_29 (s : Sg) : PQ (f_X11_copyRow_110_29 s) (fun _ s9 => s9 = pA s 110 (va_cpy (s.1 29) (s.1 110) 0 0 24)) := by
  unfold f_X11_copyRow_110_29
  exact pq_c (fun _ => pq_s rfl)
theorem c_X11_copyRow_111_30 (s : Sg) : PQ (f_X11_copyRow_111_30 s) (fun _ s9 => s9 = pA s 111 (va_cpy (s.1 30) (s.1 111) 0 0 24)) := by
  unfold f_X11_copyRow_111_30
  exact pq_c (fun _ => pq_s rfl)
theorem c_X11_copyRow_112_31 (s : Sg) : PQ (f_X11_copyRow_112_31 s) (fun _ s9 => s9 = pA s 112 (va_cpy (s.1 31) (s.1 112) 0 0 8)) := by
  unfold f_X11_copyRow_112_31
  exact pq_c (fun _ => pq_s rfl)
theorem c_X11_copyRow_113_32 (s : Sg) : PQ (f_X11_copyRow_113_32 s) (fun _ s9 => s9 = pA s 113 (va_cpy (s.1 32) (s.1 113) 0 0 8)) := by
  unfold f_X11_copyRow_113_32
  exact pq_c (fun _ => pq_s rfl)
theorem c_X11_copyRow_114_33 (s : Sg) : PQ (f_X11_copyRow_114_33 s) (fun _ s9 => s9 = pA s 114 (va_cpy (s.1 33) (s.1 114) 0 0 8)) := by
  unfold f_X11_copyRow_114_33
  exact pq_c (fun _ => pq_s rfl)
theorem c_X11_copyRow_115_34 (s : Sg) : PQ (f_X11_copyRow_115_34 s) (fun _ s9 => s9 = pA s 115 (va_cpy (s.1 34) (s.1 115) 0 0 8)) := by
  unfold f_X11_copyRow_115_34
  exact pq_c (fun _ => pq_s rfl)
theorem c_X11_copyRow_116_35 (s : Sg) : PQ (f_X11_copyRow_116_35 s) (fun _ s9 => s9 = pA s 116 (va_cpy (s.1 35) (s.1 116) 0 0 4)) := by
  unfold f_X11_copyRow_116_35
  exact pq_c (fun _ => pq_s rfl)
theorem c_X11_copyRow_117_36 (s : Sg) : PQ (f_X11_copyRow_117_36 s) (fun _ s9 => s9 = pA s 117 (va_cpy (s.1 36) (s.1 117) 0 0 4)) := by
  unfold f_X11_copyRow_117_36
  exact pq_c (fun _ => pq_s rfl)
theorem c_X11_copyRow_118_37 (s : Sg) : PQ (f_X11_copyRow_118_37 s) (fun _ s9 => s9 = pA s 118 (va_cpy (s.1 37) (s.1 118) 0 0 4)) := by
  unfold f_X11_copyRow_118_37
  exact pq_c (fun _ => pq_s rfl)
theorem c_X11_copyRow_119_38 (s : Sg) : PQ (f_X11_copyRow_119_38 s) (fun _ s9 => s9 = pA s 119 (va_cpy (s.1 38) (s.1 119) 0 0 4)) := by
  unfold f_X11_copyRow_119_38
  exact pq_c (fun _ => pq_s rfl)
theorem c_X11_copyRow_120_39 (s : Sg) : PQ (f_X11_copyRow_120_39 s) (fun _ s9 => s9 = pA s 120 (va_cpy (s.1 39) (s.1 120) 0 0 4)) := by
  unfold f_X11_copyRow_120_39
  exact pq_c (fun _ => pq_s rfl)
theorem c_X4_copyFrom_25_106 (s : Sg) : PQ (f_X4_copyFrom_25_106 s) (fun _ s9 => (∀ k, k < 24 → s9.1 110 k = s.1 29 k) ∧ (∀ k, k < 24 → s9.1 111 k = s.1 30 k) ∧ s9.1 106 12 = s.1 25 12) := by
  unfold f_X4_copyFrom_25_106
  refine pq_b (c_X11_copyRow_110_29 _) (fun _ s2 hs2 => ?_)
  refine pq_b (c_X11_copyRow_111_30 _) (fun _ s4 hs4 => ?_)
  refine pq_b (c_X11_copyRow_112_31 _) (fun _ s6 hs6 => ?_)
  refine pq_b (c_X11_copyRow_113_32 _) (fun _ s8 hs8 => ?_)
  refine pq_b (c_X11_copyRow_114_33 _) (fun _ s10 hs10 => ?_)
  refine pq_b (c_X11_copyRow_115_34 _) (fun _ s12 hs12 => ?_)
  refine pq_b (c_X11_copyRow_116_35 _) (fun _ s14 hs14 => ?_)
  refine pq_b (c_X11_copyRow_117_36 _) (fun _ s16 hs16 => ?_)
  refine pq_b (c_X11_copyRow_118_37 _) (fun _ s18 hs18 => ?_)
  refine pq_b (c_X11_copyRow_119_38 _) (fun _ s20 hs20 => ?_)
  refine pq_b (c_X11_copyRow_120_39 _) (fun _ s22 hs22 => ?_)
  refine pq_n (fun s23 es23 => ?_)
  refine pq_n (fun s24 es24 => ?_)
  refine pq_n (fun s25 es25 => ?_)
  refine pq_c (fun _ => ?_)
  exact pq_s ⟨fun k hk => (q_nc (c' := 110) (k' := k) rfl).trans ((q_nc (c' := 110) (k' := k) rfl).trans ((congrArg (fun z : Sg => z.1 110 k) es25).trans ((q_nc (c' := 110) (k' := k) rfl).trans ((q_nc (c' := 110) (k' := k) rfl).trans ((congrArg (fun z : Sg => z.1 110 k) es24).trans ((q_nc (c' := 110) (k' := k) rfl).trans ((q_nc (c' := 110) (k' := k) rfl).trans ((congrArg (fun z : Sg => z.1 110 k) es23).trans ((q_nc (c' := 110) (k' := k) rfl).trans ((q_nc (c' := 110) (k' := k) rfl).trans ((cp_ne (c := 110) (k := k) hs22 rfl).trans ((cp_ne (c := 110) (k := k) hs20 rfl).trans ((cp_ne (c := 110) (k := k) hs18 rfl).trans ((cp_ne (c := 110) (k := k) hs16 rfl).trans ((cp_ne (c := 110) (k := k) hs14 rfl).trans ((cp_ne (c := 110) (k := k) hs12 rfl).trans ((cp_ne (c := 110) (k := k) hs10 rfl).trans ((cp_ne (c := 110) (k := k) hs8 rfl).trans ((cp_ne (c := 110) (k := k) hs6 rfl).trans ((cp_ne (c := 110) (k := k) hs4 rfl).trans (cp_at (s := pB s 109 (va_cpy (s.2 28) (s.2 109) 0 0 24)) hs2 hk))))))))))))))))))))), fun k hk => (q_nc (c' := 111) (k' := k) rfl).trans ((q_nc (c' := 111) (k' := k) rfl).trans ((congrArg (fun z : Sg => z.1 111 k) es25).trans ((q_nc (c' := 111) (k' := k) rfl).trans ((q_nc (c' := 111) (k' := k) rfl).trans ((congrArg (fun z : Sg => z.1 111 k) es24).trans ((q_nc (c' := 111) (k' := k) rfl).trans ((q_nc (c' := 111) (k' := k) rfl).trans ((congrArg (fun z : Sg => z.1 111 k) es23).trans ((q_nc (c' := 111) (k' := k) rfl).trans ((q_nc (c' := 111) (k' := k) rfl).trans ((cp_ne (c := 111) (k := k) hs22 rfl).trans ((cp_ne (c := 111) (k := k) hs20 rfl).trans ((cp_ne (c := 111) (k := k) hs18 rfl).trans ((cp_ne (c := 111) (k := k) hs16 rfl).trans ((cp_ne (c := 111) (k := k) hs14 rfl).trans ((cp_ne (c := 111) (k := k) hs12 rfl).trans ((cp_ne (c := 111) (k := k) hs10 rfl).trans ((cp_ne (c := 111) (k := k) hs8 rfl).trans ((cp_ne (c := 111) (k := k) hs6 rfl).trans ((cp_at hs4 hk).trans (cp_ne (s := pB s 109 (va_cpy (s.2 28) (s.2 109) 0 0 24)) (c := 30) (k := k) hs2 rfl))))))))))))))))))))), (q_ne (c' := 106) (k' := 12) rfl).trans ((q_ne (c' := 106) (k' := 12) rfl).trans ((congrArg (fun z : Sg => z.1 106 12) es25).trans ((q_ne (c' := 106) (k' := 12) rfl).trans ((q_ne (c' := 106) (k' := 12) rfl).trans ((congrArg (fun z : Sg => z.1 106 12) es24).trans ((q_ne (c' := 106) (k' := 12) rfl).trans ((q_ne (c' := 106) (k' := 12) rfl).trans ((congrArg (fun z : Sg => z.1 106 12) es23).trans ((q_ne (c' := 106) (k' := 12) rfl).trans ((q_eq).trans ((cp_ne (c := 25) (k := 12) hs22 rfl).trans ((cp_ne (c := 25) (k := 12) hs20 rfl).trans ((cp_ne (c := 25) (k := 12) hs18 rfl).trans ((cp_ne (c := 25) (k := 12) hs16 rfl).trans ((cp_ne (c := 25) (k := 12) hs14 rfl).trans ((cp_ne (c := 25) (k := 12) hs12 rfl).trans ((cp_ne (c := 25) (k := 12) hs10 rfl).trans ((cp_ne (c := 25) (k := 12) hs8 rfl).trans ((cp_ne (c := 25) (k := 12) hs6 rfl).trans ((cp_ne (c := 25) (k := 12) hs4 rfl).trans (cp_ne (s := pB s 109 (va_cpy (s.2 28) (s.2 109) 0 0 24)) (c := 25) (k := 12) hs2 rfl)))))))))))))))))))))⟩
theorem c_X11_copyRow_121_40 (s : Sg) : PQ (f_X11_copyRow_121_40 s) (fun _ s9 => s9 = pA s 121 (va_cpy (s.1 40) (s.1 121) 0 0 8)) := by
  unfold f_X11_copyRow_121_40
  exact pq_c (fun _ => pq_s rfl)
theorem c_X11_copyRow_122_41 (s : Sg) : PQ (f_X11_copyRow_122_41 s) (fun _ s9 => s9 = pA s 122 (va_cpy (s.1 41) (s.1 122) 0 0 8)) := by
  unfold f_X11_copyRow_122_41
  exact pq_c (fun _ => pq_s rfl)
theorem c_X11_copyRow_123_42 (s : Sg) : PQ (f_X11_copyRow_123_42 s) (fun _ s9 => s9 = pA s 123 (va_cpy (s.1 42) (s.1 123) 0 0 8)) := by
  unfold f_X11_copyRow_123_42
  exact pq_c (fun _ => pq_s rfl)
theorem c_X11_copyRow_124_43 (s : Sg) : PQ (f_X11_copyRow_124_43 s) (fun _ s9 => s9 = pA s 124 (va_cpy (s.1 43) (s.1 124) 0 0 8)) := by
  unfold f_X11_copyRow_124_43
  exact pq_c (fun _ => pq_s rfl)
theorem c_X11_copyRow_125_44 (s : Sg) : PQ (f_X11_copyRow_125_44 s) (fun _ s9 => s9 = pA s 125 (va_cpy (s.1 44) (s.1 125) 0 0 4)) := by
  unfold f_X11_copyRow_125_44
  exact pq_c (fun _ => pq_s rfl)
theorem c_X11_copyRow_126_45 (s : Sg) : PQ (f_X11_copyRow_126_45 s) (fun _ s9 => s9 = pA s 126 (va_cpy (s.1 45) (s.1 126) 0 0 60)) := by
  unfold f_X11_copyRow_126_45
  exact pq_c (fun _ => pq_s rfl)
theorem c_X11_copyRow_127_46 (s : Sg) : PQ (f_X11_copyRow_127_46 s) (fun _ s9 => s9 = pA s 127 (va_cpy (s.1 46) (s.1 127) 0 0 60)) := by
  unfold f_X11_copyRow_127_46
  exact pq_c (fun _ => pq_s rfl)
theorem c_X11_copyRow_128_47 (s : Sg) : PQ (f_X11_copyRow_128_47 s) (fun _ s9 => s9 = pA s 128 (va_cpy (s.1 47) (s.1 128) 0 0 60)) := by
  unfold f_X11_copyRow_128_47
  exact pq_c (fun _ => pq_s rfl)
theorem c_X11_copyRow_129_48 (s : Sg) : PQ (f_X11_copyRow_129_48 s) (fun _ s9 => s9 = pA s 129 (va_cpy (s.1 48) (s.1 129) 0 0 60)) := by
  unfold f_X11_copyRow_129_48
  exact pq_c (fun _ => pq_s rfl)
theorem c_X11_copyRow_130_49 (s : Sg) : PQ (f_X11_copyRow_130_49 s) (fun _ s9 => s9 = pA s 130 (va_cpy (s.1 49) (s.1 130) 0 0 60)) := by
  unfold f_X11_copyRow_130_49
  exact pq_c (fun _ => pq_s rfl)
theorem c_X11_copyRow_131_50 (s : Sg) : PQ (f_X11_copyRow_131_50 s) (fun _ s9 => s9 = pA s 131 (va_cpy (s.1 50) (s.1 131) 0 0 60)) := by
  unfold f_X11_copyRow_131_50
  exact pq_c (fun _ => pq_s rfl)
theorem c_X5_copyFrom_27_108 (s : Sg) : PQ (f_X5_copyFrom_27_108 s) (fun _ s9 => (∀ k, k < 60 → s9.1 126 k = s.1 45 k) ∧ (∀ k, k < 60 → s9.1 127 k = s.1 46 k) ∧ s9.1 108 7 = s.1 27 7) := by
  unfold f_X5_copyFrom_27_108
  refine pq_b (c_X11_copyRow_126_45 _) (fun _ s2 hs2 => ?_)
  refine pq_b (c_X11_copyRow_127_46 _) (fun _ s4 hs4 => ?_)
  refine pq_b (c_X11_copyRow_128_47 _) (fun _ s6 hs6 => ?_)
  refine pq_b (c_X11_copyRow_129_48 _) (fun _ s8 hs8 => ?_)
  refine pq_b (c_X11_copyRow_130_49 _) (fun _ s10 hs10 => ?_)
  refine pq_b (c_X11_copyRow_131_50 _) (fun _ s12 hs12 => ?_)
  refine pq_c (fun _ => ?_)
  refine pq_n (fun s14 es14 => ?_)
  exact pq_s ⟨fun k hk => (q_nc (c' := 126) (k' := k) rfl).trans ((congrArg (fun z : Sg => z.1 126 k) es14).trans ((q_nc (c' := 126) (k' := k) rfl).trans ((q_nc (c' := 126) (k' := k) rfl).trans ((cp_ne (c := 126) (k := k) hs12 rfl).trans ((cp_ne (c := 126) (k := k) hs10 rfl).trans ((cp_ne (c := 126) (k := k) hs8 rfl).trans ((cp_ne (c := 126) (k := k) hs6 rfl).trans ((cp_ne (c := 126) (k := k) hs4 rfl).trans (cp_at hs2 hk))))))))), fun k hk => (q_nc (c' := 127) (k' := k) rfl).trans ((congrArg (fun z : Sg => z.1 127 k) es14).trans ((q_nc (c' := 127) (k' := k) rfl).trans ((q_nc (c' := 127) (k' := k) rfl).trans ((cp_ne (c := 127) (k := k) hs12 rfl).trans ((cp_ne (c := 127) (k := k) hs10 rfl).trans ((cp_ne (c := 127) (k := k) hs8 rfl).trans ((cp_ne (c := 127) (k := k) hs6 rfl).trans ((cp_at hs4 hk).trans (cp_ne (c := 46) (k := k) hs2 rfl))))))))), (q_ne (c' := 108) (k' := 7) rfl).trans ((congrArg (fun z : Sg => z.1 108 7) es14).trans ((q_eq).trans ((q_nc (c' := 27) (k' := 7) rfl).trans ((cp_ne (c := 27) (k := 7) hs12 rfl).trans ((cp_ne (c := 27) (k := 7) hs10 rfl).trans ((cp_ne (c := 27) (k := 7) hs8 rfl).trans ((cp_ne (c := 27) (k := 7) hs6 rfl).trans ((cp_ne (c := 27) (k := 7) hs4 rfl).trans (cp_ne (c := 27) (k := 7) hs2 rfl)))))))))⟩
theorem c_X10_copyFrom_24_105 {s : Sg} (h : WkC 24 s) (r1 : (s.1 25 12).toInt ≤ 24) (r2 : (s.1 27 7).toInt ≤ 60) : PQ (f_X10_copyFrom_24_105 s) (fun _ s9 => WkC 105 s9) := by
  unfold f_X10_copyFrom_24_105
  refine pq_b (pq_and (c_X4_copyFrom_25_106 s) (ft_X4_copyFrom_25_106 s)) (fun _ s2 g2 => pq_b (ft_X2_copyFrom_26_107 s2) (fun _ s4 g4 => pq_b (pq_and (c_X5_copyFrom_27_108 s4) (ft_X5_copyFrom_27_108 s4)) (fun _ s6 g6 => pq_s ?_)))
  exact wk_cp h r1 r2 ((fr_e g6.2 106 12 106 rfl rfl).trans ((fr_e g4 106 12 106 rfl rfl).trans g2.1.2.2)) (fun k hk => (fr_e g6.2 110 k 110 rfl rfl).trans ((fr_e g4 110 k 110 rfl rfl).trans (g2.1.1 k hk))) (fun k hk => (fr_e g6.2 111 k 111 rfl rfl).trans ((fr_e g4 111 k 111 rfl rfl).trans (g2.1.2.1 k hk))) (g6.1.2.2.trans ((fr_e g4 27 7 27 rfl rfl).trans (fr_e g2.2 27 7 27 rfl rfl))) (fun k hk => (g6.1.1 k hk).trans ((fr_e g4 45 k 45 rfl rfl).trans (fr_e g2.2 45 k 45 rfl rfl))) (fun k hk => (g6.1.2.1 k hk).trans ((fr_e g4 46 k 46 rfl rfl).trans (fr_e g2.2 46 k 46 rfl rfl)))
theorem c_X11_copyRow_137_29 (s : Sg) : PQ (f_X11_copyRow_137_29 s) (fun _ s9 => s9 = pA s 137 (va_cpy (s.1 29) (s.1 137) 0 0 24)) := by
  unfold f_X11_copyRow_137_29
  exact pq_c (fun _ => pq_s rfl)
theorem c_X11_copyRow_138_30 (s : Sg) : PQ (f_X11_copyRow_138_30 s) (fun _ s9 => s9 = pA s 138 (va_cpy (s.1 30) (s.1 138) 0 0 24)) := by
  unfold f_X11_copyRow_138_30
  exact pq_c (fun _ => pq_s rfl)
theorem c_X11_copyRow_139_31 (s : Sg) : PQ (f_X11_copyRow_139_31 s) (fun _ s9 => s9 = pA s 139 (va_cpy (s.1 31) (s.1 139) 0 0 8)) := by
  unfold f_X11_copyRow_139_31
  exact pq_c (fun _ => pq_s rfl)
theorem c_X11_copyRow_140_32 (s : Sg) : PQ (f_X11_copyRow_140_32 s) (fun _ s9 => s9 = pA s 140 (va_cpy (s.1 32) (s.1 140) 0 0 8)) := by
  unfold f_X11_copyRow_140_32
  exact pq_c (fun _ => pq_s rfl)
theorem c_X11_copyRow_141_33 (s : Sg) : PQ (f_X11_copyRow_141_33 s) (fun _ s9 => s9 = pA s 141 (va_cpy (s.1 33) (s.1 141) 0 0 8)) := by
  unfold f_X11_copyRow_141_33
  exact pq_c (fun _ => pq_s rfl)
theorem c_X11_copyRow_142_34 (s : Sg) : PQ (f_X11_copyRow_142_34 s) (fun _ s9 => s9 = pA s 142 (va_cpy (s.1 34) (s.1 142) 0 0 8)) := by
  unfold f_X11_copyRow_142_34
  exact pq_c (fun _ => pq_s rfl)
theorem c_X11_copyRow_143_35 (s : Sg) : PQ (f_X11_copyRow_143_35 s) (fun _ s9 => s9 = pA s 143 (va_cpy (s.1 35) (s.1 143) 0 0 4)) := by
  unfold f_X11_copyRow_143_35
  exact pq_c (fun _ => pq_s rfl)
theorem c_X11_copyRow_144_36 (s : Sg) : PQ (f_X11_copyRow_144_36 s) (fun _ s9 => s9 = pA s 144 (va_cpy (s.1 36) (s.1 144) 0 0 4)) := by
  unfold f_X11_copyRow_144_36
  exact pq_c (fun _ => pq_s rfl)
theorem c_X11_copyRow_145_37 (s : Sg) : PQ (f_X11_copyRow_145_37 s) (fun _ s9 => s9 = pA s 145 (va_cpy (s.1 37) (s.1 145) 0 0 4)) := by
  unfold f_X11_copyRow_145_37
  exact pq_c (fun _ => pq_s rfl)
theorem c_X11_copyRow_146_38 (s : Sg) : PQ (f_X11_copyRow_146_38 s) (fun _ s9 => s9 = pA s 146 (va_cpy (s.1 38) (s.1 146) 0 0 4)) := by
  unfold f_X11_copyRow_146_38
  exact pq_c (fun _ => pq_s rfl)
theorem c_X11_copyRow_147_39 (s : Sg) : PQ (f_X11_copyRow_147_39 s) (fun _ s9 => s9 = pA s 147 (va_cpy (s.1 39) (s.1 147) 0 0 4)) := by
  unfold f_X11_copyRow_147_39
  exact pq_c (fun _ => pq_s rfl)
theorem c_X4_copyFrom_25_133 (s : Sg) : PQ (f_X4_copyFrom_25_133 s) (fun _ s9 => (∀ k, k < 24 → s9.1 137 k = s.1 29 k) ∧ (∀ k, k < 24 → s9.1 138 k = s.1 30 k) ∧ s9.1 133 12 = s.1 25 12) := by
  unfold f_X4_copyFrom_25_133
  refine pq_b (c_X11_copyRow_137_29 _) (fun _ s2 hs2 => ?_)
  refine pq_b (c_X11_copyRow_138_30 _) (fun _ s4 hs4 => ?_)
  refine pq_b (c_X11_copyRow_139_31 _) (fun _ s6 hs6 => ?_)
  refine pq_b (c_X11_copyRow_140_32 _) (fun _ s8 hs8 => ?_)
  refine pq_b (c_X11_copyRow_141_33 _) (fun _ s10 hs10 => ?_)
  refine pq_b (c_X11_copyRow_142_34 _) (fun _ s12 hs12 => ?_)
  refine pq_b (c_X11_copyRow_143_35 _) (fun _ s14 hs14 => ?_)
  refine pq_b (c_X11_copyRow_144_36 _) (fun _ s16 hs16 => ?_)
  refine pq_b (c_X11_copyRow_145_37 _) (fun _ s18 hs18 => ?_)
  refine pq_b (c_X11_copyRow_146_38 _) (fun _ s20 hs20 => ?_)
  refine pq_b (c_X11_copyRow_147_39 _) (fun _ s22 hs22 => ?_)
  refine pq_n (fun s23 es23 => ?_)
  refine pq_n (fun s24 es24 => ?_)
  refine pq_n (fun s25 es25 => ?_)
  refine pq_c (fun _ => ?_)
  exact pq_s ⟨fun k hk => (q_nc (c' := 137) (k' := k) rfl).trans ((q_nc (c' := 137) (k' := k) rfl).trans ((congrArg (fun z : Sg => z.1 137 k) es25).trans ((q_nc (c' := 137) (k' := k) rfl).trans ((q_nc (c' := 137) (k' := k) rfl).trans ((congrArg (fun z : Sg => z.1 137 k) es24).trans ((q_nc (c' := 137) (k' := k) rfl).trans ((q_nc (c' := 137) (k' := k) rfl).trans ((congrArg (fun z : Sg => z.1 137 k) es23).trans ((q_nc (c' := 137) (k' := k) rfl).trans ((q_nc (c' := 137) (k' := k) rfl).trans ((cp_ne (c := 137) (k := k) hs22 rfl).trans ((cp_ne (c := 137) (k := k) hs20 rfl).trans ((cp_ne (c := 137) (k := k) hs18 rfl).trans ((cp_ne (c := 137) (k := k) hs16 rfl).trans ((cp_ne (c := 137) (k := k) hs14 rfl).trans ((cp_ne (c := 137) (k := k) hs12 rfl).trans ((cp_ne (c := 137) (k := k) hs10 rfl).trans ((cp_ne (c := 137) (k := k) hs8 rfl).trans ((cp_ne (c := 137) (k := k) hs6 rfl).trans ((cp_ne (c := 137) (k := k) hs4 rfl).trans (cp_at (s := pB s 136 (va_cpy (s.2 28) (s.2 136) 0 0 24)) hs2 hk))))))))))))))))))))), fun k hk => (q_nc (c' := 138) (k' := k) rfl).trans ((q_nc (c' := 138) (k' := k) rfl).trans ((congrArg (fun z : Sg => z.1 138 k) es25).trans ((q_nc (c' := 138) (k' := k) rfl).trans ((q_nc (c' := 138) (k' := k) rfl).trans ((congrArg (fun z : Sg => z.1 138 k) es24).trans ((q_nc (c' := 138) (k' := k) rfl).trans ((q_nc (c' := 138) (k' := k) rfl).trans ((congrArg (fun z : Sg => z.1 138 k) es23).trans ((q_nc (c' := 138) (k' := k) rfl).trans ((q_nc (c' := 138) (k' := k) rfl).trans ((cp_ne (c := 138) (k := k) hs22 rfl).trans ((cp_ne (c := 138) (k := k) hs20 rfl).trans ((cp_ne (c := 138) (k := k) hs18 rfl).trans ((cp_ne (c := 138) (k := k) hs16 rfl).trans ((cp_ne (c := 138) (k := k) hs14 rfl).trans ((cp_ne (c := 138) (k := k) hs12 rfl).trans ((cp_ne (c := 138) (k := k) hs10 rfl).trans ((cp_ne (c := 138) (k := k) hs8 rfl).trans ((cp_ne (c := 138) (k := k) hs6 rfl).trans ((cp_at hs4 hk).trans (cp_ne (s := pB s 136 (va_cpy (s.2 28) (s.2 136) 0 0 24)) (c := 30) (k := k) hs2 rfl))))))))))))))))))))), (q_ne (c' := 133) (k' := 12) rfl).trans ((q_ne (c' := 133) (k' := 12) rfl).trans ((congrArg (fun z : Sg => z.1 133 12) es25).trans ((q_ne (c' := 133) (k' := 12) rfl).trans ((q_ne (c' := 133) (k' := 12) rfl).trans ((congrArg (fun z : Sg => z.1 133 12) es24).trans ((q_ne (c' := 133) (k' := 12) rfl).trans ((q_ne (c' := 133) (k' := 12) rfl).trans ((congrArg (fun z : Sg => z.1 133 12) es23).trans ((q_ne (c' := 133) (k' := 12) rfl).trans ((q_eq).trans ((cp_ne (c := 25) (k := 12) hs22 rfl).trans ((cp_ne (c := 25) (k := 12) hs20 rfl).trans ((cp_ne (c := 25) (k := 12) hs18 rfl).trans ((cp_ne (c := 25) (k := 12) hs16 rfl).trans ((cp_ne (c := 25) (k := 12) hs14 rfl).trans ((cp_ne (c := 25) (k := 12) hs12 rfl).trans ((cp_ne (c := 25) (k := 12) hs10 rfl).trans ((cp_ne (c := 25) (k := 12) hs8 rfl).trans ((cp_ne (c := 25) (k := 12) hs6 rfl).trans ((cp_ne (c := 25) (k := 12) hs4 rfl).trans (cp_ne (s := pB s 136 (va_cpy (s.2 28) (s.2 136) 0 0 24)) (c := 25) (k := 12) hs2 rfl)))))))))))))))))))))⟩
theorem c_X11_copyRow_148_40 (s : Sg) : PQ (f_X11_copyRow_148_40 s) (fun _ s9 => s9 = pA s 148 (va_cpy (s.1 40) (s.1 148) 0 0 8)) := by
  unfold f_X11_copyRow_148_40
  exact pq_c (fun _ => pq_s rfl)
theorem c_X11_copyRow_149_41 (s : Sg) : PQ (f_X11_copyRow_149_41 s) (fun _ s9 => s9 = pA s 149 (va_cpy (s.1 41) (s.1 149) 0 0 8)) := by
  unfold f_X11_copyRow_149_41
  exact pq_c (fun _ => pq_s rfl)
theorem c_X11_copyRow_150_42 (s : Sg) : PQ (f_X11_copyRow_150_42 s) (fun _ s9 => s9 = pA s 150 (va_cpy (s.1 42) (s.1 150) 0 0 8)) := by
  unfold f_X11_copyRow_150_42
  exact pq_c (fun _ => pq_s rfl)
theorem c_X11_copyRow_151_43 (s : Sg) : PQ (f_X11_copyRow_151_43 s) (fun _ s9 => s9 = pA s 151 (va_cpy (s.1 43) (s.1 151) 0 0 8)) := by
  unfold f_X11_copyRow_151_43
  exact pq_c (fun _ => pq_s rfl)
theorem c_X11_copyRow_152_44 (s : Sg) : PQ (f_X11_copyRow_152_44 s) (fun _ s9 => s9 = pA s 152 (va_cpy (s.1 44) (s.1 152) 0 0 4)) := by
  unfold f_X11_copyRow_152_44
  exact pq_c (fun _ => pq_s rfl)
theorem c_X11_copyRow_153_45 (s : Sg) : PQ (f_X11_copyRow_153_45 s) (fun _ s9 => s9 = pA s 153 (va_cpy (s.1 45) (s.1 153) 0 0 60)) := by
  unfold f_X11_copyRow_153_45
  exact pq_c (fun _ => pq_s rfl)
theorem c_X11_copyRow_154_46 (s : Sg) : PQ (f_X11_copyRow_154_46 s) (fun _ s9 => s9 = pA s 154 (va_cpy (s.1 46) (s.1 154) 0 0 60)) := by
  unfold f_X11_copyRow_154_46
  exact pq_c (fun _ => pq_s rfl)
theorem c_X11_copyRow_155_47 (s : Sg) : PQ (f_X11_copyRow_155_47 s) (fun _ s9 => s9 = pA s 155 (va_cpy (s.1 47) (s.1 155) 0 0 60)) := by
  unfold f_X11_copyRow_155_47
  exact pq_c (fun _ => pq_s rfl)
theorem c_X11_copyRow_156_48 (s : Sg) : PQ (f_X11_copyRow_156_48 s) (fun _ s9 => s9 = pA s 156 (va_cpy (s.1 48) (s.1 156) 0 0 60)) := by
  unfold f_X11_copyRow_156_48
  exact pq_c (fun _ => pq_s rfl)
theorem c_X11_copyRow_157_49 (s : Sg) : PQ (f_X11_copyRow_157_49 s) (fun _ s9 => s9 = pA s 157 (va_cpy (s.1 49) (s.1 157) 0 0 60)) := by
  unfold f_X11_copyRow_157_49
  exact pq_c (fun _ => pq_s rfl)
theorem c_X11_copyRow_158_50 (s : Sg) : PQ (f_X11_copyRow_158_50 s) (fun _ s9 => s9 = pA s 158 (va_cpy (s.1 50) (s.1 158) 0 0 60)) := by
  unfold f_X11_copyRow_158_50
  exact pq_c (fun _ => pq_s rfl)
theorem c_X5_copyFrom_27_135 (s : Sg) : PQ (f_X5_copyFrom_27_135 s) (fun _ s9 => (∀ k, k < 60 → s9.1 153 k = s.1 45 k) ∧ (∀ k, k < 60 → s9.1 154 k = s.1 46 k) ∧ s9.1 135 7 = s.1 27 7) := by
  unfold f_X5_copyFrom_27_135
  refine pq_b (c_X11_copyRow_153_45 _) (fun _ s2 hs2 => ?_)
  refine pq_b (c_X11_copyRow_154_46 _) (fun _ s4 hs4 => ?_)
  refine pq_b (c_X11_copyRow_155_47 _) (fun _ s6 hs6 => ?_)
  refine pq_b (c_X11_copyRow_156_48 _) (fun _ s8 hs8 => ?_)
  refine pq_b (c_X11_copyRow_157_49 _) (fun _ s10 hs10 => ?_)
  refine pq_b (c_X11_copyRow_158_50 _) (fun _ s12 hs12 => ?_)
  refine pq_c (fun _ => ?_)
  refine pq_n (fun s14 es14 => ?_)
  exact pq_s ⟨fun k hk => (q_nc (c' := 153) (k' := k) rfl).trans ((congrArg (fun z : Sg => z.1 153 k) es14).trans ((q_nc (c' := 153) (k' := k) rfl).trans ((q_nc (c' := 153) (k' := k) rfl).trans ((cp_ne (c := 153) (k := k) hs12 rfl).trans ((cp_ne (c := 153) (k := k) hs10 rfl).trans ((cp_ne (c := 153) (k := k) hs8 rfl).trans ((cp_ne (c := 153) (k := k) hs6 rfl).trans ((cp_ne (c := 153) (k := k) hs4 rfl).trans (cp_at hs2 hk))))))))), fun k hk => (q_nc (c' := 154) (k' := k) rfl).trans ((congrArg (fun z : Sg => z.1 154 k) es14).trans ((q_nc (c' := 154) (k' := k) rfl).trans ((q_nc (c' := 154) (k' := k) rfl).trans ((cp_ne (c := 154) (k := k) hs12 rfl).trans ((cp_ne (c := 154) (k := k) hs10 rfl).trans ((cp_ne (c := 154) (k := k) hs8 rfl).trans ((cp_ne (c := 154) (k := k) hs6 rfl).trans ((cp_at hs4 hk).trans (cp_ne (c := 46) (k := k) hs2 rfl))))))))), (q_ne (c' := 135) (k' := 7) rfl).trans ((congrArg (fun z : Sg => z.1 135 7) es14).trans ((q_eq).trans ((q_nc (c' := 27) (k' := 7) rfl).trans ((cp_ne (c := 27) (k := 7) hs12 rfl).trans ((cp_ne (c := 27) (k := 7) hs10 rfl).trans ((cp_ne (c := 27) (k := 7) hs8 rfl).trans ((cp_ne (c := 27) (k := 7) hs6 rfl).trans ((cp_ne (c := 27) (k := 7) hs4 rfl).trans (cp_ne (c := 27) (k := 7) hs2 rfl)))))))))⟩
theorem c_X10_copyFrom_24_132 {s : Sg} (h : WkC 24 s) (r1 : (s.1 25 12).toInt ≤ 24) (r2 : (s.1 27 7).toInt ≤ 60) : PQ (f_X10_copyFrom_24_132 s) (fun _ s9 => WkC 132 s9) := by
  unfold f_X10_copyFrom_24_132
  refine pq_b (pq_and (c_X4_copyFrom_25_133 s) (ft_X4_copyFrom_25_133 s)) (fun _ s2 g2 => pq_b (ft_X2_copyFrom_26_134 s2) (fun _ s4 g4 => pq_b (pq_and (c_X5_copyFrom_27_135 s4) (ft_X5_copyFrom_27_135 s4)) (fun _ s6 g6 => pq_s ?_)))
  exact wk_cp h r1 r2 ((fr_e g6.2 133 12 133 rfl rfl).trans ((fr_e g4 133 12 133 rfl rfl).trans g2.1.2.2)) (fun k hk => (fr_e g6.2 137 k 137 rfl rfl).trans ((fr_e g4 137 k 137 rfl rfl).trans (g2.1.1 k hk))) (fun k hk => (fr_e g6.2 138 k 138 rfl rfl).trans ((fr_e g4 138 k 138 rfl rfl).trans (g2.1.2.1 k hk))) (g6.1.2.2.trans ((fr_e g4 27 7 27 rfl rfl).trans (fr_e g2.2 27 7 27 rfl rfl))) (fun k hk => (g6.1.1 k hk).trans ((fr_e g4 45 k 45 rfl rfl).trans (fr_e g2.2 45 k 45 rfl rfl))) (fun k hk => (g6.1.2.1 k hk).trans ((fr_e g4 46 k 46 rfl rfl).trans (fr_e g2.2 46 k 46 rfl rfl)))
theorem c_X11_copyRow_29_83 (s : Sg) : PQ (f_X11_copyRow_29_83 s) (fun _ s9 => s9 = pA s 29 (va_cpy (s.1 83) (s.1 29) 0 0 24)) := by
  unfold f_X11_copyRow_29_83
  exact pq_c (fun _ => pq_s rfl)
theorem c_X11_copyRow_30_84 (s : Sg) : PQ (f_X11_copyRow_30_84 s) (fun _ s9 => s9 = pA s 30 (va_cpy (s.1 84) (s.1 30) 0 0 24)) := by
  unfold f_X11_copyRow_30_84
  exact pq_c (fun _ => pq_s rfl)
theorem c_X11_copyRow_31_85 (s : Sg) : PQ (f_X11_copyRow_31_85 s) (fun _ s9 => s9 = pA s 31 (va_cpy (s.1 85) (s.1 31) 0 0 8)) := by
  unfold f_X11_copyRow_31_85
  exact pq_c (fun _ => pq_s rfl)
theorem c_X11_copyRow_32_86 (s : Sg) : PQ (f_X11_copyRow_32_86 s) (fun _ s9 => s9 = pA s 32 (va_cpy (s.1 86) (s.1 32) 0 0 8)) := by
  unfold f_X11_copyRow_32_86
  exact pq_c (fun _ => pq_s rfl)
theorem c_X11_copyRow_33_87 (s : Sg) : PQ (f_X11_copyRow_33_87 s) (fun _ s9 => s9 = pA s 33 (va_cpy (s.1 87) (s.1 33) 0 0 8)) := by
  unfold f_X11_copyRow_33_87
  exact pq_c (fun _ => pq_s rfl)
theorem c_X11_copyRow_34_88 (s : Sg) : PQ (f_X11_copyRow_34_88 s) (fun _ s9 => s9 = pA s 34 (va_cpy (s.1 88) (s.1 34) 0 0 8)) := by
  unfold f_X11_copyRow_34_88
  exact pq_c (fun _ => pq_s rfl)
theorem c_X11_copyRow_35_89 (s : Sg) : PQ (f_X11_copyRow_35_89 s) (fun _ s9 => s9 = pA s 35 (va_cpy (s.1 89) (s.1 35) 0 0 4)) := by
  unfold f_X11_copyRow_35_89
  exact pq_c (fun _ => pq_s rfl)
theorem c_X11_copyRow_36_90 (s : Sg) : PQ (f_X11_copyRow_36_90 s) (fun _ s9 => s9 = pA s 36 (va_cpy (s.1 90) (s.1 36) 0 0 4)) := by
  unfold f_X11_copyRow_36_90
  exact pq_c (fun _ => pq_s rfl)
theorem c_X11_copyRow_37_91 (s : Sg) : PQ (f_X11_copyRow_37_91 s) (fun _ s9 => s9 = pA s 37 (va_cpy (s.1 91) (s.1 37) 0 0 4)) := by
  unfold f_X11_copyRow_37_91
  exact pq_c (fun _ => pq_s rfl)
theorem c_X11_copyRow_38_92 (s : Sg) : PQ (f_X11_copyRow_38_92 s) (fun _ s9 => s9 = pA s 38 (va_cpy (s.1 92) (s.1 38) 0 0 4)) := by
  unfold f_X11_copyRow_38_92
  exact pq_c (fun _ => pq_s rfl)
theorem c_X11_copyRow_39_93 (s : Sg) : PQ (f_X11_copyRow_39_93 s) (fun _ s9 => s9 = pA s 39 (va_cpy (s.1 93) (s.1 39) 0 0 4)) := by
  unfold f_X11_copyRow_39_93
  exact pq_c (fun _ => pq_s rfl)
theorem c_X4_copyFrom_79 (s : Sg) : PQ (f_X4_copyFrom_79 s) (fun _ s9 => (∀ k, k < 24 → s9.1 29 k = s.1 83 k) ∧ (∀ k, k < 24 → s9.1 30 k = s.1 84 k) ∧ s9.1 25 12 = s.1 79 12) := by
  unfold f_X4_copyFrom_79
  refine pq_b (c_X11_copyRow_29_83 _) (fun _ s2 hs2 => ?_)
  refine pq_b (c_X11_copyRow_30_84 _) (fun _ s4 hs4 => ?_)
  refine pq_b (c_X11_copyRow_31_85 _) (fun _ s6 hs6 => ?_)
  refine pq_b (c_X11_copyRow_32_86 _) (fun _ s8 hs8 => ?_)
  refine pq_b (c_X11_copyRow_33_87 _) (fun _ s10 hs10 => ?_)
  refine pq_b (c_X11_copyRow_34_88 _) (fun _ s12 hs12 => ?_)
  refine pq_b (c_X11_copyRow_35_89 _) (fun _ s14 hs14 => ?_)
  refine pq_b (c_X11_copyRow_36_90 _) (fun _ s16 hs16 => ?_)
  refine pq_b (c_X11_copyRow_37_91 _) (fun _ s18 hs18 => ?_)
  refine pq_b (c_X11_copyRow_38_92 _) (fun _ s20 hs20 => ?_)
  refine pq_b (c_X11_copyRow_39_93 _) (fun _ s22 hs22 => ?_)
  refine pq_n (fun s23 es23 => ?_)
  refine pq_n (fun s24 es24 => ?_)
  refine pq_n (fun s25 es25 => ?_)
  refine pq_c (fun _ => ?_)
  exact pq_s ⟨fun k hk => (q_nc (c' := 29) (k' := k) rfl).trans ((q_nc (c' := 29) (k' := k) rfl).trans ((congrArg (fun z : Sg => z.1 29 k) es25).trans ((q_nc (c' := 29) (k' := k) rfl).trans ((q_nc (c' := 29) (k' := k) rfl).trans ((congrArg (fun z : Sg => z.1 29 k) es24).trans ((q_nc (c' := 29) (k' := k) rfl).trans ((q_nc (c' := 29) (k' := k) rfl).trans ((congrArg (fun z : Sg => z.1 29 k) es23).trans ((q_nc (c' := 29) (k' := k) rfl).trans ((q_nc (c' := 29) (k' := k) rfl).trans ((cp_ne (c := 29) (k := k) hs22 rfl).trans ((cp_ne (c := 29) (k := k) hs20 rfl).trans ((cp_ne (c := 29) (k := k) hs18 rfl).trans ((cp_ne (c := 29) (k := k) hs16 rfl).trans ((cp_ne (c := 29) (k := k) hs14 rfl).trans ((cp_ne (c := 29) (k := k) hs12 rfl).trans ((cp_ne (c := 29) (k := k) hs10 rfl).trans ((cp_ne (c := 29) (k := k) hs8 rfl).trans ((cp_ne (c := 29) (k := k) hs6 rfl).trans ((cp_ne (c := 29) (k := k) hs4 rfl).trans (cp_at (s := pB s 28 (va_cpy (s.2 82) (s.2 28) 0 0 24)) hs2 hk))))))))))))))))))))), fun k hk => (q_nc (c' := 30) (k' := k) rfl).trans ((q_nc (c' := 30) (k' := k) rfl).trans ((congrArg (fun z : Sg => z.1 30 k) es25).trans ((q_nc (c' := 30) (k' := k) rfl).trans ((q_nc (c' := 30) (k' := k) rfl).trans ((congrArg (fun z : Sg => z.1 30 k) es24).trans ((q_nc (c' := 30) (k' := k) rfl).trans ((q_nc (c' := 30) (k' := k) rfl).trans ((congrArg (fun z : Sg => z.1 30 k) es23).trans ((q_nc (c' := 30) (k' := k) rfl).trans ((q_nc (c' := 30) (k' := k) rfl).trans ((cp_ne (c := 30) (k := k) hs22 rfl).trans ((cp_ne (c := 30) (k := k) hs20 rfl).trans ((cp_ne (c := 30) (k := k) hs18 rfl).trans ((cp_ne (c := 30) (k := k) hs16 rfl).trans ((cp_ne (c := 30) (k := k) hs14 rfl).trans ((cp_ne (c := 30) (k := k) hs12 rfl).trans ((cp_ne (c := 30) (k := k) hs10 rfl).trans ((cp_ne (c := 30) (k := k) hs8 rfl).trans ((cp_ne (c := 30) (k := k) hs6 rfl).trans ((cp_at hs4 hk).trans (cp_ne (s := pB s 28 (va_cpy (s.2 82) (s.2 28) 0 0 24)) (c := 84) (k := k) hs2 rfl))))))))))))))))))))), (q_ne (c' := 25) (k' := 12) rfl).trans ((q_ne (c' := 25) (k' := 12) rfl).trans ((congrArg (fun z : Sg => z.1 25 12) es25).trans ((q_ne (c' := 25) (k' := 12) rfl).trans ((q_ne (c' := 25) (k' := 12) rfl).trans ((congrArg (fun z : Sg => z.1 25 12) es24).trans ((q_ne (c' := 25) (k' := 12) rfl).trans ((q_ne (c' := 25) (k' := 12) rfl).trans ((congrArg (fun z : Sg => z.1 25 12) es23).trans ((q_ne (c' := 25) (k' := 12) rfl).trans ((q_eq).trans ((cp_ne (c := 79) (k := 12) hs22 rfl).trans ((cp_ne (c := 79) (k := 12) hs20 rfl).trans ((cp_ne (c := 79) (k := 12) hs18 rfl).trans ((cp_ne (c := 79) (k := 12) hs16 rfl).trans ((cp_ne (c := 79) (k := 12) hs14 rfl).trans ((cp_ne (c := 79) (k := 12) hs12 rfl).trans ((cp_ne (c := 79) (k := 12) hs10 rfl).trans ((cp_ne (c := 79) (k := 12) hs8 rfl).trans ((cp_ne (c := 79) (k := 12) hs6 rfl).trans ((cp_ne (c := 79) (k := 12) hs4 rfl).trans (cp_ne (s := pB s 28 (va_cpy (s.2 82) (s.2 28) 0 0 24)) (c := 79) (k := 12) hs2 rfl)))))))))))))))))))))⟩
theorem c_X11_copyRow_40_94 (s : Sg) : PQ (f_X11_copyRow_40_94 s) (fun _ s9 => s9 = pA s 40 (va_cpy (s.1 94) (s.1 40) 0 0 8)) := by
  unfold f_X11_copyRow_40_94
  exact pq_c (fun _ => pq_s rfl)
theorem c_X11_copyRow_41_95 (s : Sg) : PQ (f_X11_copyRow_41_95 s) (fun _ s9 => s9 = pA s 41 (va_cpy (s.1 95) (s.1 41) 0 0 8)) := by
  unfold f_X11_copyRow_41_95
  exact pq_c (fun _ => pq_s rfl)
theorem c_X11_copyRow_42_96 (s : Sg) : PQ (f_X11_copyRow_42_96 s) (fun _ s9 => s9 = pA s 42 (va_cpy (s.1 96) (s.1 42) 0 0 8)) := by
  unfold f_X11_copyRow_42_96
  exact pq_c (fun _ => pq_s rfl)
theorem c_X11_copyRow_43_97 (s : Sg) : PQ (f_X11_copyRow_43_97 s) (fun _ s9 => s9 = pA s 43 (va_cpy (s.1 97) (s.1 43) 0 0 8)) := by
  unfold f_X11_copyRow_43_97
  exact pq_c (fun _ => pq_s rfl)
theorem c_X11_copyRow_44_98 (s : Sg) : PQ (f_X11_copyRow_44_98 s) (fun _ s9 => s9 = pA s 44 (va_cpy (s.1 98) (s.1 44) 0 0 4)) := by
  unfold f_X11_copyRow_44_98
  exact pq_c (fun _ => pq_s rfl)
theorem c_X11_copyRow_45_99 (s : Sg) : PQ (f_X11_copyRow_45_99 s) (fun _ s9 => s9 = pA s 45 (va_cpy (s.1 99) (s.1 45) 0 0 60)) := by
  unfold f_X11_copyRow_45_99
  exact pq_c (fun _ => pq_s rfl)
theorem c_X11_copyRow_46_100 (s : Sg) : PQ (f_X11_copyRow_46_100 s) (fun _ s9 => s9 = pA s 46 (va_cpy (s.1 100) (s.1 46) 0 0 60)) := by
  unfold f_X11_copyRow_46_100
  exact pq_c (fun _ => pq_s rfl)
theorem c_X11_copyRow_47_101 (s : Sg) : PQ (f_X11_copyRow_47_101 s) (fun _ s9 => s9 = pA s 47 (va_cpy (s.1 101) (s.1 47) 0 0 60)) := by
  unfold f_X11_copyRow_47_101
  exact pq_c (fun _ => pq_s rfl)
theorem c_X11_copyRow_48_102 (s : Sg) : PQ (f_X11_copyRow_48_102 s) (fun _ s9 => s9 = pA s 48 (va_cpy (s.1 102) (s.1 48) 0 0 60)) := by
  unfold f_X11_copyRow_48_102
  exact pq_c (fun _ => pq_s rfl)
theorem c_X11_copyRow_49_103 (s : Sg) : PQ (f_X11_copyRow_49_103 s) (fun _ s9 => s9 = pA s 49 (va_cpy (s.1 103) (s.1 49) 0 0 60)) := by
  unfold f_X11_copyRow_49_103
  exact pq_c (fun _ => pq_s rfl)
theorem c_X11_copyRow_50_104 (s : Sg) : PQ (f_X11_copyRow_50_104 s) (fun _ s9 => s9 = pA s 50 (va_cpy (s.1 104) (s.1 50) 0 0 60)) := by
  unfold f_X11_copyRow_50_104
  exact pq_c (fun _ => pq_s rfl)
theorem c_X5_copyFrom_81 (s : Sg) : PQ (f_X5_copyFrom_81 s) (fun _ s9 => (∀ k, k < 60 → s9.1 45 k = s.1 99 k) ∧ (∀ k, k < 60 → s9.1 46 k = s.1 100 k) ∧ s9.1 27 7 = s.1 81 7) := by
  unfold f_X5_copyFrom_81
  refine pq_b (c_X11_copyRow_45_99 _) (fun _ s2 hs2 => ?_)
  refine pq_b (c_X11_copyRow_46_100 _) (fun _ s4 hs4 => ?_)
  refine pq_b (c_X11_copyRow_47_101 _) (fun _ s6 hs6 => ?_)
  refine pq_b (c_X11_copyRow_48_102 _) (fun _ s8 hs8 => ?_)
  refine pq_b (c_X11_copyRow_49_103 _) (fun _ s10 hs10 => ?_)
  refine pq_b (c_X11_copyRow_50_104 _) (fun _ s12 hs12 => ?_)
  refine pq_c (fun _ => ?_)
  refine pq_n (fun s14 es14 => ?_)
  exact pq_s ⟨fun k hk => (q_nc (c' := 45) (k' := k) rfl).trans ((congrArg (fun z : Sg => z.1 45 k) es14).trans ((q_nc (c' := 45) (k' := k) rfl).trans ((q_nc (c' := 45) (k' := k) rfl).trans ((cp_ne (c := 45) (k := k) hs12 rfl).trans ((cp_ne (c := 45) (k := k) hs10 rfl).trans ((cp_ne (c := 45) (k := k) hs8 rfl).trans ((cp_ne (c := 45) (k := k) hs6 rfl).trans ((cp_ne (c := 45) (k := k) hs4 rfl).trans (cp_at hs2 hk))))))))), fun k hk => (q_nc (c' := 46) (k' := k) rfl).trans ((congrArg (fun z : Sg => z.1 46 k) es14).trans ((q_nc (c' := 46) (k' := k) rfl).trans ((q_nc (c' := 46) (k' := k) rfl).trans ((cp_ne (c := 46) (k := k) hs12 rfl).trans ((cp_ne (c := 46) (k := k) hs10 rfl).trans ((cp_ne (c := 46) (k := k) hs8 rfl).trans ((cp_ne (c := 46) (k := k) hs6 rfl).trans ((cp_at hs4 hk).trans (cp_ne (c := 100) (k := k) hs2 rfl))))))))), (q_ne (c' := 27) (k' := 7) rfl).trans ((congrArg (fun z : Sg => z.1 27 7) es14).trans ((q_eq).trans ((q_nc (c' := 81) (k' := 7) rfl).trans ((cp_ne (c := 81) (k := 7) hs12 rfl).trans ((cp_ne (c := 81) (k := 7) hs10 rfl).trans ((cp_ne (c := 81) (k := 7) hs8 rfl).trans ((cp_ne (c := 81) (k := 7) hs6 rfl).trans ((cp_ne (c := 81) (k := 7) hs4 rfl).trans (cp_ne (c := 81) (k := 7) hs2 rfl)))))))))⟩
theorem c_X10_copyFrom_78 {s : Sg} (h : WkC 78 s) (r1 : (s.1 79 12).toInt ≤ 24) (r2 : (s.1 81 7).toInt ≤ 60) : PQ (f_X10_copyFrom_78 s) (fun _ s9 => WkC 24 s9) := by
  unfold f_X10_copyFrom_78
  refine pq_b (pq_and (c_X4_copyFrom_79 s) (ft_X4_copyFrom_79 s)) (fun _ s2 g2 => pq_b (ft_X2_copyFrom_80 s2) (fun _ s4 g4 => pq_b (pq_and (c_X5_copyFrom_81 s4) (ft_X5_copyFrom_81 s4)) (fun _ s6 g6 => pq_s ?_)))
  exact wk_cp h r1 r2 ((fr_e g6.2 25 12 25 rfl rfl).trans ((fr_e g4 25 12 25 rfl rfl).trans g2.1.2.2)) (fun k hk => (fr_e g6.2 29 k 29 rfl rfl).trans ((fr_e g4 29 k 29 rfl rfl).trans (g2.1.1 k hk))) (fun k hk => (fr_e g6.2 30 k 30 rfl rfl).trans ((fr_e g4 30 k 30 rfl rfl).trans (g2.1.2.1 k hk))) (g6.1.2.2.trans ((fr_e g4 81 7 81 rfl rfl).trans (fr_e g2.2 81 7 81 rfl rfl))) (fun k hk => (g6.1.1 k hk).trans ((fr_e g4 99 k 99 rfl rfl).trans (fr_e g2.2 99 k 99 rfl rfl))) (fun k hk => (g6.1.2.1 k hk).trans ((fr_e g4 100 k 100 rfl rfl).trans (fr_e g2.2 100 k 100 rfl rfl)))
theorem c_X11_copyRow_29_110 (s : Sg) : PQ (f_X11_copyRow_29_110 s) (fun _ s9 => s9 = pA s 29 (va_cpy (s.1 110) (s.1 29) 0 0 24)) := by
  unfold f_X11_copyRow_29_110
  exact pq_c (fun _ => pq_s rfl)
theorem c_X11_copyRow_30_111 (s : Sg) : PQ (f_X11_copyRow_30_111 s) (fun _ s9 => s9 = pA s 30 (va_cpy (s.1 111) (s.1 30) 0 0 24)) := by
  unfold f_X11_copyRow_30_111
  exact pq_c (fun _ => pq_s rfl)
theorem c_X11_copyRow_31_112 (s : Sg) : PQ (f_X11_copyRow_31_112 s) (fun _ s9 => s9 = pA s 31 (va_cpy (s.1 112) (s.1 31) 0 0 8)) := by
  unfold f_X11_copyRow_31_112
  exact pq_c (fun _ => pq_s rfl)
theorem c_X11_copyRow_32_113 (s : Sg) : PQ (f_X11_copyRow_32_113 s) (fun _ s9 => s9 = pA s 32 (va_cpy (s.1 113) (s.1 32) 0 0 8)) := by
  unfold f_X11_copyRow_32_113
  exact pq_c (fun _ => pq_s rfl)
theorem c_X11_copyRow_33_114 (s : Sg) : PQ (f_X11_copyRow_33_114 s) (fun _ s9 => s9 = pA s 33 (va_cpy (s.1 114) (s.1 33) 0 0 8)) := by
  unfold f_X11_copyRow_33_114
  exact pq_c (fun _ => pq_s rfl)
theorem c_X11_copyRow_34_115 (s : Sg) : PQ (f_X11_copyRow_34_115 s) (fun _ s9 => s9 = pA s 34 (va_cpy (s.1 115) (s.1 34) 0 0 8)) := by
  unfold f_X11_copyRow_34_115
  exact pq_c (fun _ => pq_s rfl)
theorem c_X11_copyRow_35_116 (s : Sg) : PQ (f_X11_copyRow_35_116 s) (fun _ s9 => s9 = pA s 35 (va_cpy (s.1 116) (s.1 35) 0 0 4)) := by
  unfold f_X11_copyRow_35_116
  exact pq_c (fun _ => pq_s rfl)
theorem c_X11_copyRow_36_117 (s : Sg) : PQ (f_X11_copyRow_36_117 s) (fun _ s9 => s9 = pA s 36 (va_cpy (s.1 117) (s.1 36) 0 0 4)) := by
  unfold f_X11_copyRow_36_117
  exact pq_c (fun _ => pq_s rfl)
theorem c_X11_copyRow_37_118 (s : Sg) : PQ (f_X11_copyRow_37_118 s) (fun _ s9 => s9 = pA s 37 (va_cpy (s.1 118) (s.1 37) 0 0 4)) := by
  unfold f_X11_copyRow_37_118
  exact pq_c (fun _ => pq_s rfl)
theorem c_X11_copyRow_38_119 (s : Sg) : PQ (f_X11_copyRow_38_119 s) (fun _ s9 => s9 = pA s 38 (va_cpy (s.1 119) (s.1 38) 0 0 4)) := by
  unfold f_X11_copyRow_38_119
  exact pq_c (fun _ => pq_s rfl)
theorem c_X11_copyRow_39_120 (s : Sg) : PQ (f_X11_copyRow_39_120 s) (fun _ s9 => s9 = pA s 39 (va_cpy (s.1 120) (s.1 39) 0 0 4)) := by
  unfold f_X11_copyRow_39_120
  exact pq_c (fun _ => pq_s rfl)
theorem c_X4_copyFrom_106 (s : Sg) : PQ (f_X4_copyFrom_106 s) (fun _ s9 => (∀ k, k < 24 → s9.1 29 k = s.1 110 k) ∧ (∀ k, k < 24 → s9.1 30 k = s.1 111 k) ∧ s9.1 25 12 = s.1 106 12) := by
  unfold f_X4_copyFrom_106
  refine pq_b (c_X11_copyRow_29_110 _) (fun _ s2 hs2 => ?_)
  refine pq_b (c_X11_copyRow_30_111 _) (fun _ s4 hs4 => ?_)
  refine pq_b (c_X11_copyRow_31_112 _) (fun _ s6 hs6 => ?_)
  refine pq_b (c_X11_copyRow_32_113 _) (fun _ s8 hs8 => ?_)
  refine pq_b (c_X11_copyRow_33_114 _) (fun _ s10 hs10 => ?_)
  refine pq_b (c_X11_copyRow_34_115 _) (fun _ s12 hs12 => ?_)
  refine pq_b (c_X11_copyRow_35_116 _) (fun _ s14 hs14 => ?_)
  refine pq_b (c_X11_copyRow_36_117 _) (fun _ s16 hs16 => ?_)
  refine pq_b (c_X11_copyRow_37_118 _) (fun _ s18 hs18 => ?_)
  refine pq_b (c_X11_copyRow_38_119 _) (fun _ s20 hs20 => ?_)
  refine pq_b (c_X11_copyRow_39_120 _) (fun _ s22 hs22 => ?_)
  refine pq_n (fun s23 es23 => ?_)
  refine pq_n (fun s24 es24 => ?_)
  refine pq_n (fun s25 es25 => ?_)
  refine pq_c (fun _ => ?_)
  exact pq_s ⟨fun k hk => (q_nc (c' := 29) (k' := k) rfl).trans ((q_nc (c' := 29) (k' := k) rfl).trans ((congrArg (fun z : Sg => z.1 29 k) es25).trans ((q_nc (c' := 29) (k' := k) rfl).trans ((q_nc (c' := 29) (k' := k) rfl).trans ((congrArg (fun z : Sg => z.1 29 k) es24).trans ((q_nc (c' := 29) (k' := k) rfl).trans ((q_nc (c' := 29) (k' := k) rfl).trans ((congrArg (fun z : Sg => z.1 29 k) es23).trans ((q_nc (c' := 29) (k' := k) rfl).trans ((q_nc (c' := 29) (k' := k) rfl).trans ((cp_ne (c := 29) (k := k) hs22 rfl).trans ((cp_ne (c := 29) (k := k) hs20 rfl).trans ((cp_ne (c := 29) (k := k) hs18 rfl).trans ((cp_ne (c := 29) (k := k) hs16 rfl).trans ((cp_ne (c := 29) (k := k) hs14 rfl).trans ((cp_ne (c := 29) (k := k) hs12 rfl).trans ((cp_ne (c := 29) (k := k) hs10 rfl).trans ((cp_ne (c := 29) (k := k) hs8 rfl).trans ((cp_ne (c := 29) (k := k) hs6 rfl).trans ((cp_ne (c := 29) (k := k) hs4 rfl).trans (cp_at (s := pB s 28 (va_cpy (s.2 109) (s.2 28) 0 0 24)) hs2 hk))))))))))))))))))))), fun k hk => (q_nc (c' := 30) (k' := k) rfl).trans ((q_nc (c' := 30) (k' := k) rfl).trans ((congrArg (fun z : Sg => z.1 30 k) es25).trans ((q_nc (c' := 30) (k' := k) rfl).trans ((q_nc (c' := 30) (k' := k) rfl).trans ((congrArg (fun z : Sg => z.1 30 k) es24).trans ((q_nc (c' := 30) (k' := k) rfl).trans ((q_nc (c' := 30) (k' := k) rfl).trans ((congrArg (fun z : Sg => z.1 30 k) es23).trans ((q_nc (c' := 30) (k' := k) rfl).trans ((q_nc (c' := 30) (k' := k) rfl).trans ((cp_ne (c := 30) (k := k) hs22 rfl).trans ((cp_ne (c := 30) (k := k) hs20 rfl).trans ((cp_ne (c := 30) (k := k) hs18 rfl).trans ((cp_ne (c := 30) (k := k) hs16 rfl).trans ((cp_ne (c := 30) (k := k) hs14 rfl).trans ((cp_ne (c := 30) (k := k) hs12 rfl).trans ((cp_ne (c := 30) (k := k) hs10 rfl).trans ((cp_ne (c := 30) (k := k) hs8 rfl).trans ((cp_ne (c := 30) (k := k) hs6 rfl).trans ((cp_at hs4 hk).trans (cp_ne (s := pB s 28 (va_cpy (s.2 109) (s.2 28) 0 0 24)) (c := 111) (k := k) hs2 rfl))))))))))))))))))))), (q_ne (c' := 25) (k' := 12) rfl).trans ((q_ne (c' := 25) (k' := 12) rfl).trans ((congrArg (fun z : Sg => z.1 25 12) es25).trans ((q_ne (c' := 25) (k' := 12) rfl).trans ((q_ne (c' := 25) (k' := 12) rfl).trans ((congrArg (fun z : Sg => z.1 25 12) es24).trans ((q_ne (c' := 25) (k' := 12) rfl).trans ((q_ne (c' := 25) (k' := 12) rfl).trans ((congrArg (fun z : Sg => z.1 25 12) es23).trans ((q_ne (c' := 25) (k' := 12) rfl).trans ((q_eq).trans ((cp_ne (c := 106) (k := 12) hs22 rfl).trans ((cp_ne (c := 106) (k := 12) hs20 rfl).trans ((cp_ne (c := 106) (k := 12) hs18 rfl).trans ((cp_ne (c := 106) (k := 12) hs16 rfl).trans ((cp_ne (c := 106) (k := 12) hs14 rfl).trans ((cp_ne (c := 106) (k := 12) hs12 rfl).trans ((cp_ne (c := 106) (k := 12) hs10 rfl).trans ((cp_ne (c := 106) (k := 12) hs8 rfl).trans ((cp_ne (c := 106) (k := 12) hs6 rfl).trans ((cp_ne (c := 106) (k := 12) hs4 rfl).trans (cp_ne (s := pB s 28 (va_cpy (s.2 109) (s.2 28) 0 0 24)) (c := 106) (k := 12) hs2 rfl)))))))))))))))))))))⟩
theorem c_X11_copyRow_40_121 (s : Sg) : PQ (f_X11_copyRow_40_121 s) (fun _ s9 => s9 = pA s 40 (va_cpy (s.1 121) (s.1 40) 0 0 8)) := by
  unfold f_X11_copyRow_40_121
  exact pq_c (fun _ => pq_s rfl)
theorem c_X11_copyRow_41_122 (s : Sg) : PQ (f_X11_copyRow_41_122 s) (fun _ s9 => s9 = pA s 41 (va_cpy (s.1 122) (s.1 41) 0 0 8)) := by
  unfold f_X11_copyRow_41_122
  exact pq_c (fun _ => pq_s rfl)
theorem c_X11_copyRow_42_123 (s : Sg) : PQ (f_X11_copyRow_42_123 s) (fun _ s9 => s9 = pA s 42 (va_cpy (s.1 123) (s.1 42) 0 0 8)) := by
  unfold f_X11_copyRow_42_123
  exact pq_c (fun _ => pq_s rfl)
theorem c_X11_copyRow_43_124 (s : Sg) : PQ (f_X11_copyRow_43_124 s) (fun _ s9 => s9 = pA s 43 (va_cpy (s.1 124) (s.1 43) 0 0 8)) := by
  unfold f_X11_copyRow_43_124
  exact pq_c (fun _ => pq_s rfl)
theorem c_X11_copyRow_44_125 (s : Sg) : PQ (f_X11_copyRow_44_125 s) (fun _ s9 => s9 = pA s 44 (va_cpy (s.1 125) (s.1 44) 0 0 4)) := by
  unfold f_X11_copyRow_44_125
  exact pq_c (fun _ => pq_s rfl)
theorem c_X11_copyRow_45_126 (s : Sg) : PQ (f_X11_copyRow_45_126 s) (fun _ s9 => s9 = pA s 45 (va_cpy (s.1 126) (s.1 45) 0 0 60)) := by
  unfold f_X11_copyRow_45_126
  exact pq_c (fun _ => pq_s rfl)
theorem c_X11_copyRow_46_127 (s : Sg) : PQ (f_X11_copyRow_46_127 s) (fun _ s9 => s9 = pA s 46 (va_cpy (s.1 127) (s.1 46) 0 0 60)) := by
  unfold f_X11_copyRow_46_127
  exact pq_c (fun _ => pq_s rfl)
theorem c_X11_copyRow_47_128 (s : Sg) : PQ (f_X11_copyRow_47_128 s) (fun _ s9 => s9 = pA s 47 (va_cpy (s.1 128) (s.1 47) 0 0 60)) := by
  unfold f_X11_copyRow_47_128
  exact pq_c (fun _ => pq_s rfl)
theorem c_X11_copyRow_48_129 (s : Sg) : PQ (f_X11_copyRow_48_129 s) (fun _ s9 => s9 = pA s 48 (va_cpy (s.1 129) (s.1 48) 0 0 60)) := by
  unfold f_X11_copyRow_48_129
  exact pq_c (fun _ => pq_s rfl)
theorem c_X11_copyRow_49_130 (s : Sg) : PQ (f_X11_copyRow_49_130 s) (fun _ s9 => s9 = pA s 49 (va_cpy (s.1 130) (s.1 49) 0 0 60)) := by
  unfold f_X11_copyRow_49_130
  exact pq_c (fun _ => pq_s rfl)
theorem c_X11_copyRow_50_131 (s : Sg) : PQ (f_X11_copyRow_50_131 s) (fun _ s9 => s9 = pA s 50 (va_cpy (s.1 131) (s.1 50) 0 0 60)) := by
  unfold f_X11_copyRow_50_131
  exact pq_c (fun _ => pq_s rfl)
theorem c_X5_copyFrom_108 (s : Sg) : PQ (f_X5_copyFrom_108 s) (fun _ s9 => (∀ k, k < 60 → s9.1 45 k = s.1 126 k) ∧ (∀ k, k < 60 → s9.1 46 k = s.1 127 k) ∧ s9.1 27 7 = s.1 108 7) := by
  unfold f_X5_copyFrom_108
  refine pq_b (c_X11_copyRow_45_126 _) (fun _ s2 hs2 => ?_)
  refine pq_b (c_X11_copyRow_46_127 _) (fun _ s4 hs4 => ?_)
  refine pq_b (c_X11_copyRow_47_128 _) (fun _ s6 hs6 => ?_)
  refine pq_b (c_X11_copyRow_48_129 _) (fun _ s8 hs8 => ?_)
  refine pq_b (c_X11_copyRow_49_130 _) (fun _ s10 hs10 => ?_)
  refine pq_b (c_X11_copyRow_50_131 _) (fun _ s12 hs12 => ?_)
  refine pq_c (fun _ => ?_)
  refine pq_n (fun s14 es14 => ?_)
  exact pq_s ⟨fun k hk => (q_nc (c' := 45) (k' := k) rfl).trans ((congrArg (fun z : Sg => z.1 45 k) es14).trans ((q_nc (c' := 45) (k' := k) rfl).trans ((q_nc (c' := 45) (k' := k) rfl).trans ((cp_ne (c := 45) (k := k) hs12 rfl).trans ((cp_ne (c := 45) (k := k) hs10 rfl).trans ((cp_ne (c := 45) (k := k) hs8 rfl).trans ((cp_ne (c := 45) (k := k) hs6 rfl).trans ((cp_ne (c := 45) (k := k) hs4 rfl).trans (cp_at hs2 hk))))))))), fun k hk => (q_nc (c' := 46) (k' := k) rfl).trans ((congrArg (fun z : Sg => z.1 46 k) es14).trans ((q_nc (c' := 46) (k' := k) rfl).trans ((q_nc (c' := 46) (k' := k) rfl).trans ((cp_ne (c := 46) (k := k) hs12 rfl).trans ((cp_ne (c := 46) (k := k) hs10 rfl).trans ((cp_ne (c := 46) (k := k) hs8 rfl).trans ((cp_ne (c := 46) (k := k) hs6 rfl).trans ((cp_at hs4 hk).trans (cp_ne (c := 127) (k := k) hs2 rfl))))))))), (q_ne (c' := 27) (k' := 7) rfl).trans ((congrArg (fun z : Sg => z.1 27 7) es14).trans ((q_eq).trans ((q_nc (c' := 108) (k' := 7) rfl).trans ((cp_ne (c := 108) (k := 7) hs12 rfl).trans ((cp_ne (c := 108) (k := 7) hs10 rfl).trans ((cp_ne (c := 108) (k := 7) hs8 rfl).trans ((cp_ne (c := 108) (k := 7) hs6 rfl).trans ((cp_ne (c := 108) (k := 7) hs4 rfl).trans (cp_ne (c := 108) (k := 7) hs2 rfl)))))))))⟩
theorem c_X10_copyFrom_105 {s : Sg} (h : WkC 105 s) (r1 : (s.1 106 12).toInt ≤ 24) (r2 : (s.1 108 7).toInt ≤ 60) : PQ (f_X10_copyFrom_105 s) (fun _ s9 => WkC 24 s9) := by
  unfold f_X10_copyFrom_105
  refine pq_b (pq_and (c_X4_copyFrom_106 s) (ft_X4_copyFrom_106 s)) (fun _ s2 g2 => pq_b (ft_X2_copyFrom_107 s2) (fun _ s4 g4 => pq_b (pq_and (c_X5_copyFrom_108 s4) (ft_X5_copyFrom_108 s4)) (fun _ s6 g6 => pq_s ?_)))
  exact wk_cp h r1 r2 ((fr_e g6.2 25 12 25 rfl rfl).trans ((fr_e g4 25 12 25 rfl rfl).trans g2.1.2.2)) (fun k hk => (fr_e g6.2 29 k 29 rfl rfl).trans ((fr_e g4 29 k 29 rfl rfl).trans (g2.1.1 k hk))) (fun k hk => (fr_e g6.2 30 k 30 rfl rfl).trans ((fr_e g4 30 k 30 rfl rfl).trans (g2.1.2.1 k hk))) (g6.1.2.2.trans ((fr_e g4 108 7 108 rfl rfl).trans (fr_e g2.2 108 7 108 rfl rfl))) (fun k hk => (g6.1.1 k hk).trans ((fr_e g4 126 k 126 rfl rfl).trans (fr_e g2.2 126 k 126 rfl rfl))) (fun k hk => (g6.1.2.1 k hk).trans ((fr_e g4 127 k 127 rfl rfl).trans (fr_e g2.2 127 k 127 rfl rfl)))
theorem c_X11_copyRow_29_137 (s : Sg) : PQ (f_X11_copyRow_29_137 s) (fun _ s9 => s9 = pA s 29 (va_cpy (s.1 137) (s.1 29) 0 0 24)) := by
  unfold f_X11_copyRow_29_137
  exact pq_c (fun _ => pq_s rfl)
theorem c_X11_copyRow_30_138 (s : Sg) : PQ (f_X11_copyRow_30_138 s) (fun _ s9 => s9 = pA s 30 (va_cpy (s.1 138) (s.1 30) 0 0 24)) := by
  unfold f_X11_copyRow_30_138
  exact pq_c (fun _ => pq_s rfl)
theorem c_X11_copyRow_31_139 (s : Sg) : PQ (f_X11_copyRow_31_139 s) (fun _ s9 => s9 = pA s 31 (va_cpy (s.1 139) (s.1 31) 0 0 8)) := by
  unfold f_X11_copyRow_31_139
  exact pq_c (fun _ => pq_s rfl)
theorem c_X11_copyRow_32_140 (s : Sg) : PQ (f_X11_copyRow_32_140 s) (fun _ s9 => s9 = pA s 32 (va_cpy (s.1 140) (s.1 32) 0 0 8)) := by
  unfold f_X11_copyRow_32_140
  exact pq_c (fun _ => pq_s rfl)
theorem c_X11_copyRow_33_141 (s : Sg) : PQ (f_X11_copyRow_33_141 s) (fun _ s9 => s9 = pA s 33 (va_cpy (s.1 141) (s.1 33) 0 0 8)) := by
  unfold f_X11_copyRow_33_141
  exact pq_c (fun _ => pq_s rfl)
theorem c_X11_copyRow_34_142 (s : Sg) : PQ (f_X11_copyRow_34_142 s) (fun _ s9 => s9 = pA s 34 (va_cpy (s.1 142) (s.1 34) 0 0 8)) := by
  unfold f_X11_copyRow_34_142
  exact pq_c (fun _ => pq_s rfl)
theorem c_X11_copyRow_35_143 (s : Sg) : PQ (f_X11_copyRow_35_143 s) (fun _ s9 => s9 = pA s 35 (va_cpy (s.1 143) (s.1 35) 0 0 4)) := by
  unfold f_X11_copyRow_35_143
  exact pq_c (fun _ => pq_s rfl)
theorem c_X11_copyRow_36_144 (s : Sg) : PQ (f_X11_copyRow_36_144 s) (fun _ s9 => s9 = pA s 36 (va_cpy (s.1 144) (s.1 36) 0 0 4)) := by
  unfold f_X11_copyRow_36_144
  exact pq_c (fun _ => pq_s rfl)
theorem c_X11_copyRow_37_145 (s : Sg) : PQ (f_X11_copyRow_37_145 s) (fun _ s9 => s9 = pA s 37 (va_cpy (s.1 145) (s.1 37) 0 0 4)) := by
  unfold f_X11_copyRow_37_145
  exact pq_c (fun _ => pq_s rfl)
theorem c_X11_copyRow_38_146 (s : Sg) : PQ (f_X11_copyRow_38_146 s) (fun _ s9 => s9 = pA s 38 (va_cpy (s.1 146) (s.1 38) 0 0 4)) := by
  unfold f_X11_copyRow_38_146
  exact pq_c (fun _ => pq_s rfl)
theorem c_X11_copyRow_39_147 (s : Sg) : PQ (f_X11_copyRow_39_147 s) (fun _ s9 => s9 = pA s 39 (va_cpy (s.1 147) (s.1 39) 0 0 4)) := by
  unfold f_X11_copyRow_39_147
  exact pq_c (fun _ => pq_s rfl)
theorem c_X4_copyFrom_133 (s : Sg) : PQ (f_X4_copyFrom_133 s) (fun _ s9 => (∀ k, k < 24 → s9.1 29 k = s.1 137 k) ∧ (∀ k, k < 24 → s9.1 30 k = s.1 138 k) ∧ s9.1 25 12 = s.1 133 12) := by
  unfold f_X4_copyFrom_133
  refine pq_b (c_X11_copyRow_29_137 _) (fun _ s2 hs2 => ?_)
  refine pq_b (c_X11_copyRow_30_138 _) (fun _ s4 hs4 => ?_)
  refine pq_b (c_X11_copyRow_31_139 _) (fun _ s6 hs6 => ?_)
  refine pq_b (c_X11_copyRow_32_140 _) (fun _ s8 hs8 => ?_)
  refine pq_b (c_X11_copyRow_33_141 _) (fun _ s10 hs10 => ?_)
  refine pq_b (c_X11_copyRow_34_142 _) (fun _ s12 hs12 => ?_)
  refine pq_b (c_X11_copyRow_35_143 _) (fun _ s14 hs14 => ?_)
  refine pq_b (c_X11_copyRow_36_144 _) (fun _ s16 hs16 => ?_)
  refine pq_b (c_X11_copyRow_37_145 _) (fun _ s18 hs18 => ?_)
  refine pq_b (c_X11_copyRow_38_146 _) (fun _ s20 hs20 => ?_)
  refine pq_b (c_X11_copyRow_39_147 _) (fun _ s22 hs22 => ?_)
  refine pq_n (fun s23 es23 => ?_)
  refine pq_n (fun s24 es24 => ?_)
  refine pq_n (fun s25 es25 => ?_)
  refine pq_c (fun _ => ?_)
  exact pq_s ⟨fun k hk => (q_nc (c' := 29) (k' := k) rfl).trans ((q_nc (c' := 29) (k' := k) rfl).trans ((congrArg (fun z : Sg => z.1 29 k) es25).trans ((q_nc (c' := 29) (k' := k) rfl).trans ((q_nc (c' := 29) (k' := k) rfl).trans ((congrArg (fun z : Sg => z.1 29 k) es24).trans ((q_nc (c' := 29) (k' := k) rfl).trans ((q_nc (c' := 29) (k' := k) rfl).trans ((congrArg (fun z : Sg => z.1 29 k) es23).trans ((q_nc (c' := 29) (k' := k) rfl).trans ((q_nc (c' := 29) (k' := k) rfl).trans ((cp_ne (c := 29) (k := k) hs22 rfl).trans ((cp_ne (c := 29) (k := k) hs20 rfl).trans ((cp_ne (c := 29) (k := k) hs18 rfl).trans ((cp_ne (c := 29) (k := k) hs16 rfl).trans ((cp_ne (c := 29) (k := k) hs14 rfl).trans ((cp_ne (c := 29) (k := k) hs12 rfl).trans ((cp_ne (c := 29) (k := k) hs10 rfl).trans ((cp_ne (c := 29) (k := k) hs8 rfl).trans ((cp_ne (c := 29) (k := k) hs6 rfl).trans ((cp_ne (c := 29) (k := k) hs4 rfl).trans (cp_at (s := pB s 28 (va_cpy (s.2 136) (s.2 28) 0 0 24)) hs2 hk))))))))))))))))))))), fun k hk => (q_nc (c' := 30) (k' := k) rfl).trans ((q_nc (c' := 30) (k' := k) rfl).trans ((congrArg (fun z : Sg => z.1 30 k) es25).trans ((q_nc (c' := 30) (k' := k) rfl).trans ((q_nc (c' := 30) (k' := k) rfl).trans ((congrArg (fun z : Sg => z.1 30 k) es24).trans ((q_nc (c' := 30) (k' := k) rfl).trans ((q_nc (c' := 30) (k' := k) rfl).trans ((congrArg (fun z : Sg => z.1 30 k) es23).trans ((q_nc (c' := 30) (k' := k) rfl).trans ((q_nc (c' := 30) (k' := k) rfl).trans ((cp_ne (c := 30) (k := k) hs22 rfl).trans ((cp_ne (c := 30) (k := k) hs20 rfl).trans ((cp_ne (c := 30) (k := k) hs18 rfl).trans ((cp_ne (c := 30) (k := k) hs16 rfl).trans ((cp_ne (c := 30) (k := k) hs14 rfl).trans ((cp_ne (c := 30) (k := k) hs12 rfl).trans ((cp_ne (c := 30) (k := k) hs10 rfl).trans ((cp_ne (c := 30) (k := k) hs8 rfl).trans ((cp_ne (c := 30) (k := k) hs6 rfl).trans ((cp_at hs4 hk).trans (cp_ne (s := pB s 28 (va_cpy (s.2 136) (s.2 28) 0 0 24)) (c := 138) (k := k) hs2 rfl))))))))))))))))))))), (q_ne (c' := 25) (k' := 12) rfl).trans ((q_ne (c' := 25) (k' := 12) rfl).trans ((congrArg (fun z : Sg => z.1 25 12) es25).trans ((q_ne (c' := 25) (k' := 12) rfl).trans ((q_ne (c' := 25) (k' := 12) rfl).trans ((congrArg (fun z : Sg => z.1 25 12) es24).trans ((q_ne (c' := 25) (k' := 12) rfl).trans ((q_ne (c' := 25) (k' := 12) rfl).trans ((congrArg (fun z : Sg => z.1 25 12) es23).trans ((q_ne (c' := 25) (k' := 12) rfl).trans ((q_eq).trans ((cp_ne (c := 133) (k := 12) hs22 rfl).trans ((cp_ne (c := 133) (k := 12) hs20 rfl).trans ((cp_ne (c := 133) (k := 12) hs18 rfl).trans ((cp_ne (c := 133) (k := 12) hs16 rfl).trans ((cp_ne (c := 133) (k := 12) hs14 rfl).trans ((cp_ne (c := 133) (k := 12) hs12 rfl).trans ((cp_ne (c := 133) (k := 12) hs10 rfl).trans ((cp_ne (c := 133) (k := 12) hs8 rfl).trans ((cp_ne (c := 133) (k := 12) hs6 rfl).trans ((cp_ne (c := 133) (k := 12) hs4 rfl).trans (cp_ne (s := pB s 28 (va_cpy (s.2 136) (s.2 28) 0 0 24)) (c := 133) (k := 12) hs2 rfl)))))))))))))))))))))⟩
theorem c_X11_copyRow_40_148 (s : Sg) : PQ (f_X11_copyRow_40_148 s) (fun _ s9 => s9 = pA s 40 (va_cpy (s.1 148) (s.1 40) 0 0 8)) := by
  unfold f_X11_copyRow_40_148
  exact pq_c (fun _ => pq_s rfl)
theorem c_X11_copyRow_41_149 (s : Sg) : PQ (f_X11_copyRow_41_149 s) (fun _ s9 => s9 = pA s 41 (va_cpy (s.1 149) (s.1 41) 0 0 8)) := by
  unfold f_X11_copyRow_41_149
  exact pq_c (fun _ => pq_s rfl)
theorem c_X11_copyRow_42_150 (s : Sg) : PQ (f_X11_copyRow_42_150 s) (fun _ s9 => s9 = pA s 42 (va_cpy (s.1 150) (s.1 42) 0 0 8)) := by
  unfold f_X11_copyRow_42_150
  exact pq_c (fun _ => pq_s rfl)
theorem c_X11_copyRow_43_151 (s : Sg) : PQ (f_X11_copyRow_43_151 s) (fun _ s9 => s9 = pA s 43 (va_cpy (s.1 151) (s.1 43) 0 0 8)) := by
  unfold f_X11_copyRow_43_151
  exact pq_c (fun _ => pq_s rfl)
theorem c_X11_copyRow_44_152 (s : Sg) : PQ (f_X11_copyRow_44_152 s) (fun _ s9 => s9 = pA s 44 (va_cpy (s.1 152) (s.1 44) 0 0 4)) := by
  unfold f_X11_copyRow_44_152
  exact pq_c (fun _ => pq_s rfl)
theorem c_X11_copyRow_45_153 (s : Sg) : PQ (f_X11_copyRow_45_153 s) (fun _ s9 => s9 = pA s 45 (va_cpy (s.1 153) (s.1 45) 0 0 60)) := by
  unfold f_X11_copyRow_45_153
  exact pq_c (fun _ => pq_s rfl)
theorem c_X11_copyRow_46_154 (s : Sg) : PQ (f_X11_copyRow_46_154 s) (fun _ s9 => s9 = pA s 46 (va_cpy (s.1 154) (s.1 46) 0 0 60)) := by
  unfold f_X11_copyRow_46_154
  exact pq_c (fun _ => pq_s rfl)
theorem c_X11_copyRow_47_155 (s : Sg) : PQ (f_X11_copyRow_47_155 s) (fun _ s9 => s9 = pA s 47 (va_cpy (s.1 155) (s.1 47) 0 0 60)) := by
  unfold f_X11_copyRow_47_155
  exact pq_c (fun _ => pq_s rfl)
theorem c_X11_copyRow_48_156 (s : Sg) : PQ (f_X11_copyRow_48_156 s) (fun _ s9 => s9 = pA s 48 (va_cpy (s.1 156) (s.1 48) 0 0 60)) := by
  unfold f_X11_copyRow_48_156
  exact pq_c (fun _ => pq_s rfl)
theorem c_X11_copyRow_49_157 (s : Sg) : PQ (f_X11_copyRow_49_157 s) (fun _ s9 => s9 = pA s 49 (va_cpy (s.1 157) (s.1 49) 0 0 60)) := by
  unfold f_X11_copyRow_49_157
  exact pq_c (fun _ => pq_s rfl)
theorem c_X11_copyRow_50_158 (s : Sg) : PQ (f_X11_copyRow_50_158 s) (fun _ s9 => s9 = pA s 50 (va_cpy (s.1 158) (s.1 50) 0 0 60)) := by
  unfold f_X11_copyRow_50_158
  exact pq_c (fun _ => pq_s rfl)
theorem c_X5_copyFrom_135 (s : Sg) : PQ (f_X5_copyFrom_135 s) (fun _ s9 => (∀ k, k < 60 → s9.1 45 k = s.1 153 k) ∧ (∀ k, k < 60 → s9.1 46 k = s.1 154 k) ∧ s9.1 27 7 = s.1 135 7) := by
  unfold f_X5_copyFrom_135
  refine pq_b (c_X11_copyRow_45_153 _) (fun _ s2 hs2 => ?_)
  refine pq_b (c_X11_copyRow_46_154 _) (fun _ s4 hs4 => ?_)
  refine pq_b (c_X11_copyRow_47_155 _) (fun _ s6 hs6 => ?_)
  refine pq_b (c_X11_copyRow_48_156 _) (fun _ s8 hs8 => ?_)
  refine pq_b (c_X11_copyRow_49_157 _) (fun _ s10 hs10 => ?_)
  refine pq_b (c_X11_copyRow_50_158 _) (fun _ s12 hs12 => ?_)
  refine pq_c (fun _ => ?_)
  refine pq_n (fun s14 es14 => ?_)
  exact pq_s ⟨fun k hk => (q_nc (c' := 45) (k' := k) rfl).trans ((congrArg (fun z : Sg => z.1 45 k) es14).trans ((q_nc (c' := 45) (k' := k) rfl).trans ((q_nc (c' := 45) (k' := k) rfl).trans ((cp_ne (c := 45) (k := k) hs12 rfl).trans ((cp_ne (c := 45) (k := k) hs10 rfl).trans ((cp_ne (c := 45) (k := k) hs8 rfl).trans ((cp_ne (c := 45) (k := k) hs6 rfl).trans ((cp_ne (c := 45) (k := k) hs4 rfl).trans (cp_at hs2 hk))))))))), fun k hk => (q_nc (c' := 46) (k' := k) rfl).trans ((congrArg (fun z : Sg => z.1 46 k) es14).trans ((q_nc (c' := 46) (k' := k) rfl).trans ((q_nc (c' := 46) (k' := k) rfl).trans ((cp_ne (c := 46) (k := k) hs12 rfl).trans ((cp_ne (c := 46) (k := k) hs10 rfl).trans ((cp_ne (c := 46) (k := k) hs8 rfl).trans ((cp_ne (c := 46) (k := k) hs6 rfl).trans ((cp_at hs4 hk).trans (cp_ne (c := 154) (k := k) hs2 rfl))))))))), (q_ne (c' := 27) (k' := 7) rfl).trans ((congrArg (fun z : Sg => z.1 27 7) es14).trans ((q_eq).trans ((q_nc (c' := 135) (k' := 7) rfl).trans ((cp_ne (c := 135) (k := 7) hs12 rfl).trans ((cp_ne (c := 135) (k := 7) hs10 rfl).trans ((cp_ne (c := 135) (k := 7) hs8 rfl).trans ((cp_ne (c := 135) (k := 7) hs6 rfl).trans ((cp_ne (c := 135) (k := 7) hs4 rfl).trans (cp_ne (c := 135) (k := 7) hs2 rfl)))))))))⟩
theorem c_X10_copyFrom_132 {s : Sg} (h : WkC 132 s) (r1 : (s.1 133 12).toInt ≤ 24) (r2 : (s.1 135 7).toInt ≤ 60) : PQ (f_X10_copyFrom_132 s) (fun _ s9 => WkC 24 s9) := by
  unfold f_X10_copyFrom_132
  refine pq_b (pq_and (c_X4_copyFrom_133 s) (ft_X4_copyFrom_133 s)) (fun _ s2 g2 => pq_b (ft_X2_copyFrom_134 s2) (fun _ s4 g4 => pq_b (pq_and (c_X5_copyFrom_135 s4) (ft_X5_copyFrom_135 s4)) (fun _ s6 g6 => pq_s ?_)))
  exact wk_cp h r1 r2 ((fr_e g6.2 25 12 25 rfl rfl).trans ((fr_e g4 25 12 25 rfl rfl).trans g2.1.2.2)) (fun k hk => (fr_e g6.2 29 k 29 rfl rfl).trans ((fr_e g4 29 k 29 rfl rfl).trans (g2.1.1 k hk))) (fun k hk => (fr_e g6.2 30 k 30 rfl rfl).trans ((fr_e g4 30 k 30 rfl rfl).trans (g2.1.2.1 k hk))) (g6.1.2.2.trans ((fr_e g4 135 7 135 rfl rfl).trans (fr_e g2.2 135 7 135 rfl rfl))) (fun k hk => (g6.1.1 k hk).trans ((fr_e g4 153 k 153 rfl rfl).trans (fr_e g2.2 153 k 153 rfl rfl))) (fun k hk => (g6.1.2.1 k hk).trans ((fr_e g4 154 k 154 rfl rfl).trans (fr_e g2.2 154 k 154 rfl rfl)))
theorem wk_t {b L1 : Nat} {s s' : Sg} (h : WkC b s) (f : Fr cC L1 s s') (h1 : ∀ k, L1.testBit (cC (b + 1) k) = false) (h2 : ∀ k, L1.testBit (cC (b + 5) k) = false) (h3 : ∀ k, L1.testBit (cC (b + 6) k) = false) (h4 : ∀ k, L1.testBit (cC (b + 3) k) = false) (h5 : ∀ k, L1.testBit (cC (b + 21) k) = false) (h6 : ∀ k, L1.testBit (cC (b + 22) k) = false) : WkC b s' := by
  constructor
  · intro k k1 k2
    rw [(f _ _ (h1 12)).1] at k1
    rw [(f _ _ (h2 k)).1] at k2
    rw [(f _ _ (h3 k)).1]
    exact h.1 k k1 k2
  · intro k k1 k2
    rw [(f _ _ (h4 7)).1] at k1
    rw [(f _ _ (h5 k)).1] at k2
    rw [(f _ _ (h6 k)).1]
    exact h.2 k k1 k2
abbrev M24 : Nat := 2037035976334486086268445688409378161051468393665936250636140449354381299763231151288745983
theorem wk24 {L1 : Nat} {s s' : Sg} (h : WkC 24 s) (f : Fr cC L1 s s') (hL : L1 &&& M24 = L1) : WkC 24 s' := wk_t h f (fun _ => tb_sub hL (show Nat.testBit M24 25 = false from rfl)) (fun _ => tb_sub hL (show Nat.testBit M24 29 = false from rfl)) (fun _ => tb_sub hL (show Nat.testBit M24 30 = false from rfl)) (fun _ => tb_sub hL (show Nat.testBit M24 27 = false from rfl)) (fun _ => tb_sub hL (show Nat.testBit M24 45 = false from rfl)) (fun _ => tb_sub hL (show Nat.testBit M24 46 = false from rfl))
abbrev M78 : Nat := 2037035976334486086268445688409378161051468393665936250636138547846444423199446787998875647
theorem wk78 {L1 : Nat} {s s' : Sg} (h : WkC 78 s) (f : Fr cC L1 s s') (hL : L1 &&& M78 = L1) : WkC 78 s' := wk_t h f (fun _ => tb_sub hL (show Nat.testBit M78 79 = false from rfl)) (fun _ => tb_sub hL (show Nat.testBit M78 83 = false from rfl)) (fun _ => tb_sub hL (show Nat.testBit M78 84 = false from rfl)) (fun _ => tb_sub hL (show Nat.testBit M78 81 = false from rfl)) (fun _ => tb_sub hL (show Nat.testBit M78 99 = false from rfl)) (fun _ => tb_sub hL (show Nat.testBit M78 100 = false from rfl))
abbrev M105 : Nat := 2037035976334486086268445688409378161051468393665935995420065387814559548102504315084603391
theorem wk105 {L1 : Nat} {s s' : Sg} (h : WkC 105 s) (f : Fr cC L1 s s') (hL : L1 &&& M105 = L1) : WkC 105 s' := wk_t h f (fun _ => tb_sub hL (show Nat.testBit M105 106 = false from rfl)) (fun _ => tb_sub hL (show Nat.testBit M105 110 = false from rfl)) (fun _ => tb_sub hL (show Nat.testBit M105 111 = false from rfl)) (fun _ => tb_sub hL (show Nat.testBit M105 108 = false from rfl)) (fun _ => tb_sub hL (show Nat.testBit M105 126 = false from rfl)) (fun _ => tb_sub hL (show Nat.testBit M105 127 = false from rfl))
abbrev M132 : Nat := 2037035976334486086268445688409378161051468359411414506798805392321484149641249154110849023
theorem wk132 {L1 : Nat} {s s' : Sg} (h : WkC 132 s) (f : Fr cC L1 s s') (hL : L1 &&& M132 = L1) : WkC 132 s' := wk_t h f (fun _ => tb_sub hL (show Nat.testBit M132 133 = false from rfl)) (fun _ => tb_sub hL (show Nat.testBit M132 137 = false from rfl)) (fun _ => tb_sub hL (show Nat.testBit M132 138 = false from rfl)) (fun _ => tb_sub hL (show Nat.testBit M132 135 = false from rfl)) (fun _ => tb_sub hL (show Nat.testBit M132 153 = false from rfl)) (fun _ => tb_sub hL (show Nat.testBit M132 154 = false from rfl))
def InvC (s : Sg) : Prop := WkC 24 s ∧ WkC 78 s ∧ WkC 105 s ∧ WkC 132 s
theorem rN {s : Sg} (hR : Rg rC s) (b : Nat) (h : rC (b + 1) 12 = (0, 24)) : (s.1 (b + 1) 12).toInt ≤ 24 := by
  have q := (hR (b + 1) 12).2
  rw [h] at q
  exact q
theorem rP {s : Sg} (hR : Rg rC s) (b : Nat) (h : rC (b + 3) 7 = (0, 60)) : (s.1 (b + 3) 7).toInt ≤ 60 := by
  have q := (hR (b + 3) 7).2
  rw [h] at q
  exact q
theorem ft_an (a : Int32) {b : Nat} {s : Sg} (h : WkC b s) (hb : b = 24 ∨ b = 78 ∨ b = 105 ∨ b = 132) : PQ (f_X11_answer a s) (fun _ s9 => WkC b s9) := by
  refine pq_w (ft_X11_answer a s) (fun _ s9 g => ?_)
  rcases hb with e | e | e | e <;> subst e
  · exact wk24 h g rfl
  · exact wk78 h g rfl
  · exact wk105 h g rfl
  · exact wk132 h g rfl
theorem ft_re (a : Int32) {b : Nat} {s : Sg} (h : WkC b s) (hb : b = 24 ∨ b = 78 ∨ b = 105 ∨ b = 132) : PQ (f_X11_refuse a s) (fun _ s9 => WkC b s9) := by
  refine pq_w (ft_X11_refuse a s) (fun _ s9 g => ?_)
  rcases hb with e | e | e | e <;> subst e
  · exact wk24 h g rfl
  · exact wk78 h g rfl
  · exact wk105 h g rfl
  · exact wk132 h g rfl
theorem street_c (a1 : Int32) {s : Sg} (h : WkC 24 s) : PQ (f_X11_street a1 s) (fun _ s9 => WkC 24 s9) := by
  unfold f_X11_street
  refine pq_b (ft_X11_within _ _ _ _) (fun r1 s2 g2 => ?_)
  have h2 : WkC 24 s2 := wk24 h g2 rfl
  refine pq_if (fun _ => pq_b (ft_re 1 h2 (Or.inl rfl)) (fun _ _ g => pq_s g)) (fun _ => pq_b (ft_X7_begin _ _) (fun _ s6 g6 => ?_))
  have h6 : WkC 24 s6 := wk24 h2 g6 rfl
  refine pq_b (pq_and (tt_g s6) (ft_X6_takeText s6)) (fun r7 s8 g8 => pq_b (ft_X11_closeText s8) (fun _ s10 g10 => ?_))
  have h8 : WkC 24 s8 := wk24 h6 g8.2 rfl
  have h10 : WkC 24 s10 := wk24 h8 g10 rfl
  have p10 : P51 s10 := p5_t g8.1 g10 rfl
  refine pq_if (fun _ => pq_b (ft_re 9 h10 (Or.inl rfl)) (fun _ _ g => pq_s g)) (fun _ => pq_b (c_X10_copyFrom_51 ⟨p10.1, fun k k1 _ => ?_⟩ p10.2.2 ?_) (fun _ s14 h14 => pq_b (ft_an _ h14 (Or.inl rfl)) (fun _ _ g => pq_s g)))
  · have k1 : (k : Int) < (s10.1 54 7).toInt := k1
    rw [p10.2.1] at k1
    have e : (0 : Int32).toInt = 0 := rfl
    omega
  · rw [p10.2.1]; decide
theorem days_c (a1 : Int32) {s : Sg} (h : WkC 24 s) : PQ (f_X11_days a1 s) (fun _ s9 => WkC 24 s9) := by
  unfold f_X11_days
  refine pq_b (ft_X11_within _ _ _ _) (fun r1 s2 g2 => ?_)
  have h2 : WkC 24 s2 := wk24 h g2 rfl
  refine pq_if (fun _ => pq_b (ft_re 1 h2 (Or.inl rfl)) (fun _ _ g => pq_s g)) (fun _ => pq_if (fun _ => pq_b (ft_X7_begin _ _) (fun _ s6 g6 => ?_)) (fun _ => pq_b (ft_re 1 h2 (Or.inl rfl)) (fun _ _ g => pq_s g)))
  have h6 : WkC 24 s6 := wk24 h2 g6 rfl
  refine pq_b (pq_and (dt_g h6.1) (ft_X1_takeText s6)) (fun r7 s8 g8 => pq_b (ft_X11_closeText s8) (fun _ s10 g10 => ?_))
  have h8 : WkC 24 s8 := wk24 h6 g8.2 rfl
  have h10 : WkC 24 s10 := wk24 h8 g10 rfl
  refine pq_if (fun _ => pq_b (ft_re 9 h10 (Or.inl rfl)) (fun _ _ g => pq_s g)) (fun c => ?_)
  have d10 : DD s10 := dd_t (g8.1.elim (fun e => absurd e c) id) g10 rfl
  refine pq_b (pq_and (c_X5_copyFrom_54 s10) (ft_X5_copyFrom_54 s10)) (fun _ s14 g14 => ?_)
  have h14 : WkC 24 s14 := by
    refine ⟨gw_t h10.1 g14.2 rfl rfl rfl, fun k k1 k2 => ?_⟩
    have k1 : (k : Int) < (s14.1 27 7).toInt := k1
    have k2 : (s14.1 45 k).toInt = (119 : Int32).toInt := k2
    show (s14.1 46 k).toInt ≤ 3
    have l := d10.1.2
    rw [g14.1.2.2] at k1
    rw [g14.1.1 k (by omega)] at k2
    rw [g14.1.2.1 k (by omega)]
    exact d10.2 k k1 (Int32.toInt_inj.mp k2)
  exact pq_b (ft_an _ h14 (Or.inl rfl)) (fun _ _ g => pq_s g)
abbrev MI : Nat := 2037035976334486086268445688409378161051468359411414251582728429273725521416421289932881919
theorem inv_t {L1 : Nat} {s s' : Sg} (h : InvC s) (f : Fr cC L1 s s') (hL : L1 &&& MI = L1) : InvC s' := ⟨wk_t h.1 f (fun _ => tb_sub hL (show Nat.testBit MI 25 = false from rfl)) (fun _ => tb_sub hL (show Nat.testBit MI 29 = false from rfl)) (fun _ => tb_sub hL (show Nat.testBit MI 30 = false from rfl)) (fun _ => tb_sub hL (show Nat.testBit MI 27 = false from rfl)) (fun _ => tb_sub hL (show Nat.testBit MI 45 = false from rfl)) (fun _ => tb_sub hL (show Nat.testBit MI 46 = false from rfl)), wk_t h.2.1 f (fun _ => tb_sub hL (show Nat.testBit MI 79 = false from rfl)) (fun _ => tb_sub hL (show Nat.testBit MI 83 = false from rfl)) (fun _ => tb_sub hL (show Nat.testBit MI 84 = false from rfl)) (fun _ => tb_sub hL (show Nat.testBit MI 81 = false from rfl)) (fun _ => tb_sub hL (show Nat.testBit MI 99 = false from rfl)) (fun _ => tb_sub hL (show Nat.testBit MI 100 = false from rfl)), wk_t h.2.2.1 f (fun _ => tb_sub hL (show Nat.testBit MI 106 = false from rfl)) (fun _ => tb_sub hL (show Nat.testBit MI 110 = false from rfl)) (fun _ => tb_sub hL (show Nat.testBit MI 111 = false from rfl)) (fun _ => tb_sub hL (show Nat.testBit MI 108 = false from rfl)) (fun _ => tb_sub hL (show Nat.testBit MI 126 = false from rfl)) (fun _ => tb_sub hL (show Nat.testBit MI 127 = false from rfl)), wk_t h.2.2.2 f (fun _ => tb_sub hL (show Nat.testBit MI 133 = false from rfl)) (fun _ => tb_sub hL (show Nat.testBit MI 137 = false from rfl)) (fun _ => tb_sub hL (show Nat.testBit MI 138 = false from rfl)) (fun _ => tb_sub hL (show Nat.testBit MI 135 = false from rfl)) (fun _ => tb_sub hL (show Nat.testBit MI 153 = false from rfl)) (fun _ => tb_sub hL (show Nat.testBit MI 154 = false from rfl))⟩
theorem inv_i {s : Sg} {c k : Nat} {v : Int32} (h : InvC s) (m : Nat) (hm : cC c k = m) (hL : MI.testBit m = true) : InvC (pI s c k v) := inv_t h (fr_x m hm) (m_and hL)
theorem an_i (a : Int32) {s : Sg} (h : InvC s) : PQ (f_X11_answer a s) (fun _ s9 => InvC s9) := pq_w (ft_X11_answer a s) (fun _ _ g => inv_t h g rfl)
theorem re_i (a : Int32) {s : Sg} (h : InvC s) : PQ (f_X11_refuse a s) (fun _ s9 => InvC s9) := pq_w (ft_X11_refuse a s) (fun _ _ g => inv_t h g rfl)
theorem mark_c {s : Sg} (hR : Rg rC s) (h : InvC s) : PQ (f_X11_mark s) (fun _ s9 => InvC s9) := by
  unfold f_X11_mark
  refine pq_if (fun _ => pq_c (fun _ => pq_s3 ?_ ?_ ?_)) (fun _ => pq_b (re_i 4 h) (fun _ _ g => pq_s g))
  · refine pq_b (pq_and (c_X10_copyFrom_24_78 h.1 (rN hR 24 rfl) (rP hR 24 rfl)) (ft_X10_copyFrom_24_78 s)) (fun _ s3 g3 => ?_)
    have h3 : InvC s3 := ⟨wk24 h.1 g3.2 rfl, g3.1, wk105 h.2.2.1 g3.2 rfl, wk132 h.2.2.2 g3.2 rfl⟩
    exact pq_b (an_i _ (inv_i h3 174 rfl rfl)) (fun _ _ g => pq_s g)
  · refine pq_b (pq_and (c_X10_copyFrom_24_105 h.1 (rN hR 24 rfl) (rP hR 24 rfl)) (ft_X10_copyFrom_24_105 s)) (fun _ s3 g3 => ?_)
    have h3 : InvC s3 := ⟨wk24 h.1 g3.2 rfl, wk78 h.2.1 g3.2 rfl, g3.1, wk132 h.2.2.2 g3.2 rfl⟩
    exact pq_b (an_i _ (inv_i h3 174 rfl rfl)) (fun _ _ g => pq_s g)
  · refine pq_b (pq_and (c_X10_copyFrom_24_132 h.1 (rN hR 24 rfl) (rP hR 24 rfl)) (ft_X10_copyFrom_24_132 s)) (fun _ s3 g3 => ?_)
    have h3 : InvC s3 := ⟨wk24 h.1 g3.2 rfl, wk78 h.2.1 g3.2 rfl, wk105 h.2.2.1 g3.2 rfl, g3.1⟩
    exact pq_b (an_i _ (inv_i h3 174 rfl rfl)) (fun _ _ g => pq_s g)
theorem back_c {s : Sg} (hR : Rg rC s) (h : InvC s) : PQ (f_X11_back s) (fun _ s9 => InvC s9) := by
  unfold f_X11_back
  have h0 : ∀ v, InvC (pI s 0 14 v) := fun v => inv_i h 174 rfl rfl
  have n0 : ∀ v c k, ¬ c = 0 → (pI s 0 14 v).1 c k = s.1 c k := fun v c k hc => by rw [pI_1, if_neg (fun g => hc g.1)]
  refine pq_if (fun _ => pq_c (fun _ => pq_s3 ?_ ?_ ?_)) (fun _ => pq_b (re_i 6 h) (fun _ _ g => pq_s g))
  · refine pq_b (pq_and (c_X10_copyFrom_78 (h0 _).2.1 (by rw [n0 _ _ _ (by decide)]; exact rN hR 78 rfl) (by rw [n0 _ _ _ (by decide)]; exact rP hR 78 rfl)) (ft_X10_copyFrom_78 _)) (fun _ s3 g3 => ?_)
    have h3 : InvC s3 := ⟨g3.1, wk78 (h0 _).2.1 g3.2 rfl, wk105 (h0 _).2.2.1 g3.2 rfl, wk132 (h0 _).2.2.2 g3.2 rfl⟩
    exact pq_b (an_i _ h3) (fun _ _ g => pq_s g)
  · refine pq_b (pq_and (c_X10_copyFrom_105 (h0 _).2.2.1 (by rw [n0 _ _ _ (by decide)]; exact rN hR 105 rfl) (by rw [n0 _ _ _ (by decide)]; exact rP hR 105 rfl)) (ft_X10_copyFrom_105 _)) (fun _ s3 g3 => ?_)
    have h3 : InvC s3 := ⟨g3.1, wk78 (h0 _).2.1 g3.2 rfl, wk105 (h0 _).2.2.1 g3.2 rfl, wk132 (h0 _).2.2.2 g3.2 rfl⟩
    exact pq_b (an_i _ h3) (fun _ _ g => pq_s g)
  · refine pq_b (pq_and (c_X10_copyFrom_132 (h0 _).2.2.2 (by rw [n0 _ _ _ (by decide)]; exact rN hR 132 rfl) (by rw [n0 _ _ _ (by decide)]; exact rP hR 132 rfl)) (ft_X10_copyFrom_132 _)) (fun _ s3 g3 => ?_)
    have h3 : InvC s3 := ⟨g3.1, wk78 (h0 _).2.1 g3.2 rfl, wk105 (h0 _).2.2.1 g3.2 rfl, wk132 (h0 _).2.2.2 g3.2 rfl⟩
    exact pq_b (an_i _ h3) (fun _ _ g => pq_s g)
theorem street_i (a1 : Int32) {s : Sg} (hR : Rg rC s) (h : InvC s) : OQ (f_X11_street a1 s) (fun _ s9 => Rg rC s9 ∧ InvC s9) := by
  refine oq_w (oq_p (h_X11_street a1 hR) (street_c a1 h.1)) (fun r s9 g => ⟨g.1.1.1, g.2, ?_, ?_, ?_⟩)
  · exact wk78 h.2.1 g.1.1.2 rfl
  · exact wk105 h.2.2.1 g.1.1.2 rfl
  · exact wk132 h.2.2.2 g.1.1.2 rfl
theorem days_i (a1 : Int32) {s : Sg} (hR : Rg rC s) (h : InvC s) : OQ (f_X11_days a1 s) (fun _ s9 => Rg rC s9 ∧ InvC s9) := by
  refine oq_w (oq_p (h_X11_days a1 hR) (days_c a1 h.1)) (fun r s9 g => ⟨g.1.1.1, g.2, ?_, ?_, ?_⟩)
  · exact wk78 h.2.1 g.1.1.2 rfl
  · exact wk105 h.2.2.1 g.1.1.2 rfl
  · exact wk132 h.2.2.2 g.1.1.2 rfl
