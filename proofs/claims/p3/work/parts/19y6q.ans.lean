/-! top and bottom: fractions  -/
def TbE (s t : Sg) : Prop := s.2 0 16 = t.2 0 3 ∧ s.2 0 17 = t.2 0 4
def TbQ {α β : Type} (_ : α) (s : Sg) (_ : β) (t : Sg) : Prop := TbE s t
theorem l_div {x y : Int64} (hx : 0 ≤ x.toInt) (hy : 0 < y.toInt) : (x / y).toInt = x.toInt / y.toInt := by
  have e : (x / y).toInt = Int.bmod (x.toInt.tdiv y.toInt) 18446744073709551616 := Int64.toInt_div x y
  rw [Int.tdiv_eq_ediv_of_nonneg hx, bm64] at e
  have u := Int64.toInt_lt x
  have l : 0 ≤ x.toInt / y.toInt := Int.ediv_nonneg hx (by omega)
  have m : x.toInt / y.toInt ≤ x.toInt := Int.ediv_le_self _ hx
  omega
theorem l_mul {x y : Int64} (h : 0 ≤ x.toInt * y.toInt) (h2 : x.toInt * y.toInt < 9223372036854775808) : (x * y).toInt = x.toInt * y.toInt := by
  have e : (x * y).toInt = Int.bmod (x.toInt * y.toInt) 18446744073709551616 := Int64.toInt_mul x y
  rw [bm64] at e
  omega
theorem l_sub {x y : Int64} (h : 0 ≤ x.toInt - y.toInt) (h2 : x.toInt - y.toInt < 9223372036854775808) : (x - y).toInt = x.toInt - y.toInt := by
  have e : (x - y).toInt = Int.bmod (x.toInt - y.toInt) 18446744073709551616 := Int64.toInt_sub x y
  rw [bm64] at e
  omega
theorem l_mod {x y : Int64} (hx : 0 ≤ x.toInt) (hy : 0 < y.toInt) : (x - x / y * y).toInt = x.toInt % y.toInt := by
  have d := l_div hx hy
  have u := Int64.toInt_lt x
  have l : 0 ≤ x.toInt / y.toInt := Int.ediv_nonneg hx (by omega)
  have p0 : 0 ≤ x.toInt / y.toInt * y.toInt := Int.mul_nonneg l (by omega)
  have p1 : x.toInt / y.toInt * y.toInt ≤ x.toInt := Int.ediv_mul_le x.toInt (by omega)
  have m : (x / y * y).toInt = x.toInt / y.toInt * y.toInt := by
    rw [l_mul (by rw [d]; exact p0) (by rw [d]; omega), d]
  rw [l_sub (by rw [m]; omega) (by rw [m]; omega), m, Int.emod_def, Int.mul_comm]
theorem lg_z {v : Int64} : lg_cmp v 0 = 0 ↔ v.toInt = 0 := ⟨fun h => by rw [lg_e0 h]; rfl, fun h => by rw [show v = 0 from Int64.toInt_inj.mp h]; rfl⟩
theorem lq_le {x y : Int64} (h : lg_cmp x y ≤ 0) : x.toInt ≤ y.toInt := lg_ngt (fun z => by
  have := i_le h
  have := i_lt z
  omega)
theorem tlq_c (s : Sg) (x y : Int64) : PQ (nmx (pL (pL s 0 16 x) 0 17 y) (fun s2 => some ((), s2))) (fun _ s' => s'.2 0 16 = x ∧ s'.2 0 17 = y) := pq_n (fun s2 e => by
  rw [e]
  exact pq_s ⟨by rw [pL_2, if_neg (by decide), pL_2, if_pos ⟨rfl, rfl⟩], by rw [pL_2, if_pos ⟨rfl, rfl⟩]⟩)
theorem is_2 {x y : Int64} {t : Sg} (h : t.2 0 3 = x ∧ t.2 0 4 = y) (w : Int32) : PQ (f_X12_is w t) (fun _ t' => t'.2 0 3 = x ∧ t'.2 0 4 = y) := by
  unfold f_X12_is
  exact pq_if (fun _ => pq_s h) (fun _ => pq_s h)
theorem tlq_m (t : Sg) (x y : Int64) : PQ (nmx (pL (pL t 0 3 x) 0 4 y) (fun s2 => bd (f_X12_is 0 s2) (fun r3 s4 => ck (r3 = 0 ∨ r3 = 1) (some (r3, s4))))) (fun _ t' => t'.2 0 3 = x ∧ t'.2 0 4 = y) := pq_n (fun s2 e => pq_b (is_2 (x := x) (y := y) (by
  rw [e]
  exact ⟨by rw [pL_2, if_neg (by decide), pL_2, if_pos ⟨rfl, rfl⟩], by rw [pL_2, if_pos ⟨rfl, rfl⟩]⟩) 0) (fun _ _ k => pq_c (fun _ => pq_s k)))
theorem hlv {x y : Int} (hy : 0 < y) (h : y ≤ x) : 2 * (x % y) ≤ x := by
  have a := Int.emod_lt_of_pos x hy
  have d := Int.emod_def x y
  have q : 1 ≤ x / y := Int.le_ediv_of_mul_le hy (by omega)
  have r : y * 1 ≤ y * (x / y) := Int.mul_le_mul_of_nonneg_left q (by omega)
  generalize y * (x / y) = u at d r
  generalize x % y = v at a d ⊢
  omega
theorem mlv {x y : Int} (hx : 0 ≤ x) (hy : 0 < y) : x % y ≤ x := by
  have d := Int.emod_def x y
  have l : 0 ≤ y * (x / y) := Int.mul_nonneg (by omega) (Int.ediv_nonneg hx (by omega))
  generalize y * (x / y) = u at d l
  generalize x % y = v at d ⊢
  omega
/-- the bound that halves -/
def Hb (x y : Int) (n : Nat) : Prop := (y ≤ x ∧ ∃ j : Nat, x * y < 2 ^ j ∧ n + j ≤ 200) ∨ (n = 0 ∧ x * y < 2 ^ 126)
theorem hb_s {x y : Int} {n : Nat} (hx : 0 ≤ x) (hy : 0 < y) (h : Hb x y n) : Hb y (x % y) (n + 1) := by
  have lt := Int.emod_lt_of_pos x hy
  have ge := Int.emod_nonneg x (show y ≠ 0 by omega)
  rcases h with ⟨le, j, hj, nj⟩ | ⟨n0, hj⟩
  · have p : 0 < x * y := Int.mul_pos (by omega) hy
    cases j with
    | zero =>
      exfalso
      have e : (2 : Int) ^ 0 = 1 := rfl
      rw [e] at hj
      generalize x * y = u at p hj
      omega
    | succ i =>
      refine Or.inl ⟨by omega, i, ?_, by omega⟩
      have a := Int.mul_le_mul_of_nonneg_left (hlv hy le) (show 0 ≤ y by omega)
      have e1 : y * (2 * (x % y)) = 2 * (y * (x % y)) := Int.mul_left_comm _ _ _
      have e2 : y * x = x * y := Int.mul_comm _ _
      have e3 : (2 : Int) ^ (i + 1) = 2 ^ i * 2 := Int.pow_succ 2 i
      rw [e1, e2] at a
      rw [e3] at hj
      generalize y * (x % y) = u at a ⊢
      generalize x * y = v at a hj
      generalize (2 : Int) ^ i = w at hj ⊢
      omega
  · refine Or.inl ⟨by omega, 126, ?_, by omega⟩
    have a := Int.mul_le_mul_of_nonneg_left (mlv hx hy) (show 0 ≤ y by omega)
    rw [Int.mul_comm y x] at a
    exact Int.lt_of_le_of_lt a hj
theorem hb_n {x y : Int} {n : Nat} (h : Hb x y n) : n ≤ 200 := by
  rcases h with ⟨_, j, _, q⟩ | ⟨q, _⟩ <;> omega
/-- both programs find the same reduced fraction, the class's pair being c times the reference's -/
theorem eu_b {c A B : Int} (hc : 0 < c) (hA : 0 ≤ A) (hB : 0 ≤ B) {v1 v3 w1 w3 : Int64} (a1 : v1.toInt = c * A) (a3 : v3.toInt = c * B) (b1 : w1.toInt = A) (b3 : w3.toInt = B) (m : Nat) : ∀ (m' n : Nat) (v5 v7 w5 w7 : Int64) (v9 : Int32) (s t : Sg), v5.toInt = c * w5.toInt → v7.toInt = c * w7.toInt → 0 ≤ w5.toInt → 0 ≤ w7.toInt → (0 < w5.toInt ∨ 0 < w7.toInt) → v9.toInt = (n : Int) → Hb w5.toInt w7.toInt n → RQ (f_X11_tellFraction_b9 m v1 v3 v5 v7 v9 s) (f_X12_tellsBy_b6 m' w1 w3 w5 w7 t) TbQ := by
  induction m with
  | zero => intro m' n v5 v7 w5 w7 v9 s t _ _ _ _ _ _ _ r s' r' t' z; cases z
  | succ m ih =>
    intro m' n v5 v7 w5 w7 v9 s t h5 h7 p5 p7 p h9 hj
    cases m' with
    | zero => intro r s' r' t' _ z; cases z
    | succ m' =>
    have e1 : (1 : Int32).toInt = 1 := rfl
    have e1000 : (1000 : Int32).toInt = 1000 := rfl
    have l0 : (0 : Int64).toInt = 0 := rfl
    have n200 := hb_n hj
    have cz : lg_cmp v7 0 = 0 ↔ lg_cmp w7 0 = 0 := by
      rw [lg_z, lg_z, h7]
      exact ⟨fun z => (Int.mul_eq_zero.mp z).elim (fun y => by omega) id, fun z => by rw [z, Int.mul_zero]⟩
    unfold f_X11_tellFraction_b9 f_X12_tellsBy_b6
    refine rq_iC (fun z => absurd (i_le z) (by omega)) (fun _ => rq_iC (fun y => rq_iM (fun y' => ?_) (fun d => absurd (cz.mp y) d)) (fun y => rq_iM (fun d => absurd (cz.mpr d) y) (fun y' => ?_)))
    · have y0 := lg_z.mp y'
      have x0 : 0 < w5.toInt := by omega
      have x5 : 0 < v5.toInt := by rw [h5]; exact Int.mul_pos hc x0
      unfold f_X11_tellFraction_b45
      refine rq_iC (fun z => absurd (lq_le z) (by omega)) (fun _ => rq_cC (fun _ => rq_cM (fun _ => ?_)))
      have q1 : v1 / v5 = w1 / w5 := Int64.toInt_inj.mp (by
        rw [l_div (by rw [a1]; exact Int.mul_nonneg (by omega) hA) x5, l_div (by rw [b1]; exact hA) x0, a1, h5, b1, Int.mul_ediv_mul_of_pos _ _ hc])
      have q3 : v3 / v5 = w3 / w5 := Int64.toInt_inj.mp (by
        rw [l_div (by rw [a3]; exact Int.mul_nonneg (by omega) hB) x5, l_div (by rw [b3]; exact hB) x0, a3, h5, b3, Int.mul_ediv_mul_of_pos _ _ hc])
      exact rq_pp (tlq_c s _ _) (tlq_m t _ _) (fun _ _ _ _ x y => ⟨x.1.trans (q1.trans y.1.symm), x.2.trans (q3.trans y.2.symm)⟩)
    · have n0 : ¬ w7.toInt = 0 := fun z => y' (lg_z.mpr z)
      have x0 : 0 < w7.toInt := by omega
      have x7 : 0 < v7.toInt := by rw [h7]; exact Int.mul_pos hc x0
      have x5 : 0 ≤ v5.toInt := by rw [h5]; exact Int.mul_nonneg (by omega) p5
      have d := l_mod p5 x0
      have dC := l_mod x5 x7
      have i9 := i_addx v9 1 (by omega)
      have hd := hb_s p5 x0 hj
      rw [← d] at hd
      exact rq_cC (fun _ => rq_cM (fun _ => ih m' (n + 1) v7 _ w7 _ (v9 + 1) s t h7 (by rw [dC, d, h5, h7, Int.mul_emod_mul_of_pos _ _ hc]) p7 (by rw [d]; exact Int.emod_nonneg _ n0) (Or.inl x0) (by omega) hd))
theorem eu_t {c A B : Int} (hc : 0 < c) (hA : 0 ≤ A) (hB : 0 < B) (hb : A * B < 2 ^ 126) {v1 v3 w1 w3 : Int64} (a1 : v1.toInt = c * A) (a3 : v3.toInt = c * B) (b1 : w1.toInt = A) (b3 : w3.toInt = B) (s t : Sg) : RQ (bd (f_X11_tellFraction v1 v3 s) (fun _ s15 => bd (f_X11_granted s15) (fun r16 s17 => ck (r16 = 0 ∨ r16 = 1) (some (r16, s17))))) (bd (f_X12_tellsBy w1 w3 t) (fun r21 s22 => ck (r21 = 0 ∨ r21 = 1) (some (r21, s22)))) TbQ := by
  have q : RQ (f_X11_tellFraction v1 v3 s) (f_X12_tellsBy w1 w3 t) TbQ := by
    unfold f_X11_tellFraction f_X12_tellsBy
    exact eu_b hc hA (by omega) a1 a3 b1 b3 BIG BIG 0 v1 v3 w1 w3 0 s t (by rw [a1, b1]) (by rw [a3, b3]) (by omega) (by omega) (Or.inr (by omega)) rfl (Or.inr ⟨rfl, by rw [b1, b3]; exact hb⟩)
  refine rq_b2 q (fun _ s15 r21 t22 k => rq_cM (fun _ => rq_bC (P := fun _ s' => s'.2 = s15.2) (by unfold f_X11_granted; exact pq_s rfl) (fun r s' e => rq_cC (fun _ => rq_s ?_))))
  unfold TbQ TbE at *
  rw [e]
  exact k
theorem rf_t {s t : Sg} (T : TbE s t) (w : Int32) : RQ (bd (f_X11_refused w s) (fun r s => ck (r = 0 ∨ r = 1) (some (r, s)))) (bd (f_X12_is w t) (fun r t => ck (r = 0 ∨ r = 1) (some (r, t)))) TbQ := by
  refine rq_bC (P := fun _ s' => s'.2 = s.2) (by unfold f_X11_refused; exact pq_s rfl) (fun r s' e => rq_bM (P := fun _ t' => t'.2 = t.2) (by unfold f_X12_is; exact pq_if (fun _ => pq_s rfl) (fun _ => pq_s rfl)) (fun r' t' e' => rq_cC (fun _ => rq_cM (fun _ => rq_s ?_))))
  unfold TbQ TbE at *
  rw [e, e']
  exact T
/-! ways to taste: falling products and binomials -/
def fnk (n : Nat) : Nat → Nat
  | 0 => 1
  | 1 => n
  | 2 => n * (n - 1)
  | 3 => n * (n - 1) * (n - 2)
  | _ => n * (n - 1) * (n - 2) * (n - 3)
def bnk (n : Nat) : Nat → Nat
  | 0 => 1
  | 1 => n
  | 2 => n * (n - 1) / 2
  | 3 => n * (n - 1) / 2 * (n - 2) / 3
  | _ => n * (n - 1) / 2 * (n - 2) / 3 * (n - 3) / 4
def fct : Nat → Nat
  | 0 => 1
  | 1 => 1
  | 2 => 2
  | 3 => 6
  | _ => 24
theorem fnk_s (n i : Nat) (h : i < 4) : fnk n (i + 1) = fnk n i * (n - i) := by
  have c : i = 0 ∨ i = 1 ∨ i = 2 ∨ i = 3 := by omega
  rcases c with c | c | c | c <;> subst c
  · show n = 1 * (n - 0)
    omega
  · rfl
  · rfl
  · rfl
theorem bnk_s (n i : Nat) (h : i < 4) : bnk n (i + 1) = bnk n i * (n - i) / (i + 1) := by
  have c : i = 0 ∨ i = 1 ∨ i = 2 ∨ i = 3 := by omega
  rcases c with c | c | c | c <;> subst c
  · show n = 1 * (n - 0) / 1
    omega
  · rfl
  · rfl
  · rfl
theorem fnk_b {n : Nat} (h : n ≤ 9999) (i : Nat) : i ≤ 4 → fnk n i ≤ 10000 ^ i ∧ bnk n i ≤ 10000 ^ i := by
  induction i with
  | zero => intro _; exact ⟨Nat.le_refl 1, Nat.le_refl 1⟩
  | succ i ih =>
    intro hi
    obtain ⟨a, b⟩ := ih (by omega)
    rw [fnk_s n i (by omega), bnk_s n i (by omega), Nat.pow_succ]
    exact ⟨Nat.mul_le_mul a (by omega), Nat.le_trans (Nat.div_le_self _ _) (Nat.mul_le_mul b (by omega))⟩
theorem pw_b {i : Nat} (h : i ≤ 4) : 10000 ^ i ≤ 10000000000000000 := by
  have c : i = 0 ∨ i = 1 ∨ i = 2 ∨ i = 3 ∨ i = 4 := by omega
  rcases c with c | c | c | c | c <;> subst c <;> decide
theorem fnk_m {n n' : Nat} (h : n ≤ n') (i : Nat) : i ≤ 4 → fnk n i ≤ fnk n' i := by
  induction i with
  | zero => intro _; exact Nat.le_refl 1
  | succ i ih =>
    intro hi
    rw [fnk_s n i (by omega), fnk_s n' i (by omega)]
    exact Nat.mul_le_mul (ih (by omega)) (by omega)
theorem fnk_p {n : Nat} (i : Nat) : i ≤ 4 → i ≤ n → 0 < fnk n i := by
  induction i with
  | zero => intro _ _; exact Nat.zero_lt_one
  | succ i ih =>
    intro hi h
    rw [fnk_s n i (by omega)]
    exact Nat.mul_pos (ih (by omega) (by omega)) (by omega)
theorem fnk_0 {n i : Nat} (hi : i ≤ 4) (h : n < i) : fnk n i = 0 := by
  have c : ∀ i, i < 5 → ∀ n, n < i → fnk n i = 0 := by decide
  exact c i (by omega) n h
def cbk (n : Nat) : Bool := Nat.beq (n * (n - 1)) (2 * (n * (n - 1) / 2)) && Nat.beq (n * (n - 1) * (n - 2)) (6 * (n * (n - 1) / 2 * (n - 2) / 3)) && Nat.beq (n * (n - 1) * (n - 2) * (n - 3)) (24 * (n * (n - 1) / 2 * (n - 2) / 3 * (n - 3) / 4))
set_option maxRecDepth 20000 in
theorem cbk_a : ∀ a, a < 100 → ∀ b, b < 100 → cbk (100 * a + b) = true := by decide +kernel
theorem fb_e {n k : Nat} (hn : n ≤ 9999) (hk : k ≤ 4) : fnk n k = fct k * bnk n k := by
  have q := cbk_a (n / 100) (by omega) (n % 100) (by omega)
  rw [show 100 * (n / 100) + n % 100 = n by omega] at q
  unfold cbk at q
  rw [Bool.and_eq_true, Bool.and_eq_true] at q
  obtain ⟨⟨q2, q3⟩, q4⟩ := q
  have c : k = 0 ∨ k = 1 ∨ k = 2 ∨ k = 3 ∨ k = 4 := by omega
  rcases c with c | c | c | c | c <;> subst c
  · rfl
  · show n = 1 * n
    omega
  · exact Nat.eq_of_beq_eq_true q2
  · exact Nat.eq_of_beq_eq_true q3
  · exact Nat.eq_of_beq_eq_true q4
theorem fct_p (k : Nat) (hk : k ≤ 4) : 0 < fct k := by
  have c : ∀ i, i < 5 → 0 < fct i := by decide
  exact c k (by omega)
theorem wt_c {N k : Int32} {n K : Nat} (hN : N.toInt = (n : Int)) (hn : n ≤ 9999) (hk : k.toInt = (K : Int)) (h4 : K ≤ 4) (s : Sg) (m : Nat) : ∀ (v2 : Int64) (v4 : Int32) (i : Nat), v4.toInt = (i : Int) → i ≤ K → v2.toInt = (fnk n i : Int) → PQ (f_X11_waysToTaste_b5 m N k v2 v4 s) (fun r s' => s' = s ∧ r.toInt = (fnk n K : Int)) := by
  induction m with
  | zero => intro v2 v4 i _ _ _ r s' z; cases z
  | succ m ih =>
    intro v2 v4 i h hi hv
    have e1 : (1 : Int32).toInt = 1 := rfl
    have e0 : (0 : Int32).toInt = 0 := rfl
    unfold f_X11_waysToTaste_b5
    refine pq_if (fun c => pq_s ⟨rfl, ?_⟩) (fun c => pq_n (fun x1 e => ih x1 (v4 + 1) (i + 1) ?_ ?_ ?_))
    · have := i_le c
      rw [hv, show i = K by omega]
    · have := i_nle c
      have q := i_addx v4 1 (by omega)
      omega
    · have := i_nle c
      omega
    · have lt := i_nle c
      have sb := i_subx N v4 (by omega)
      have mx : ((if 0 < (N - v4) then (N - v4) else 0).toInt64 : Int64).toInt = ((n - i : Nat) : Int) := by
        rw [l_32]
        split
        · rename_i z
          have := i_lt z
          omega
        · rename_i z
          have := i_nlt z
          omega
      have b := (fnk_b hn (i + 1) (by omega)).1
      have b2 := pw_b (i := i + 1) (by omega)
      have st := fnk_s n i (by omega)
      have pr : v2.toInt * ((n - i : Nat) : Int) = (fnk n (i + 1) : Int) := by rw [hv, st, Int.natCast_mul]
      rw [e, l_mul (by rw [mx, pr]; omega) (by rw [mx, pr]; omega), mx, pr]
theorem wt_0 {N k : Int32} {n K : Nat} (hN : N.toInt = (n : Int)) (hn : n ≤ 9999) (hk : k.toInt = (K : Int)) (h4 : K ≤ 4) (s : Sg) : PQ (f_X11_waysToTaste N k s) (fun r s' => s' = s ∧ r.toInt = (fnk n K : Int)) := by
  unfold f_X11_waysToTaste
  exact wt_c hN hn hk h4 s BIG 1 0 0 rfl (Nat.zero_le K) rfl
theorem wf_m {N : Int64} {k : Int32} {n K : Nat} (hN : N.toInt = (n : Int)) (hn : n ≤ 9999) (hk : k.toInt = (K : Int)) (h4 : K ≤ 4) (hl : K ≤ n) (s : Sg) (m : Nat) : ∀ (v3 : Int64) (v5 : Int32) (i : Nat), v5.toInt = (i : Int) → i ≤ K → v3.toInt = (bnk n i : Int) → PQ (f_X12_waysOf_b5 m N k v3 v5 s) (fun r s' => s' = s ∧ r.toInt = (bnk n K : Int)) := by
  induction m with
  | zero => intro v3 v5 i _ _ _ r s' z; cases z
  | succ m ih =>
    intro v3 v5 i h hi hv
    have e1 : (1 : Int32).toInt = 1 := rfl
    unfold f_X12_waysOf_b5
    refine pq_if (fun c => pq_s ⟨rfl, ?_⟩) (fun c => pq_c (fun _ => pq_n (fun x1 e => ih x1 (v5 + 1) (i + 1) ?_ ?_ ?_)))
    · have := i_le c
      rw [hv, show i = K by omega]
    · have := i_nle c
      have q := i_addx v5 1 (by omega)
      omega
    · have := i_nle c
      omega
    · have lt := i_nle c
      have hd : (v5.toInt64 + 1).toInt = (i : Int) + 1 := by
        have q : (v5.toInt64 + 1).toInt = Int.bmod (v5.toInt64.toInt + (1 : Int64).toInt) 18446744073709551616 := Int64.toInt_add _ _
        have q1 : (1 : Int64).toInt = 1 := rfl
        rw [q, bm64, l_32, q1]; omega
      have b := (fnk_b hn i (by omega)).2
      have b2 := pw_b (i := i) (by omega)
      have bb : bnk n i * (n - i) ≤ 10000 ^ i * 10000 := Nat.mul_le_mul b (by omega)
      have b3 := pw_b (i := i + 1) (by omega)
      rw [Nat.pow_succ] at b3
      have st := bnk_s n i (by omega)
      have pr : v3.toInt * (N.toInt - (i : Int)) = ((bnk n i * (n - i) : Nat) : Int) := by rw [hv, hN, Int.natCast_mul, show (n : Int) - (i : Int) = ((n - i : Nat) : Int) by omega]
      have z : 0 ≤ v3.toInt * (N.toInt - (i : Int)) ∧ v3.toInt * (N.toInt - (i : Int)) < 9223372036854775808 := by
        rw [pr]
        generalize bnk n i * (n - i) = u at bb
        omega
      rw [e, w_step (i := (i : Int)) (j := (i : Int) + 1) (by rw [l_32]; exact h) hd (by omega) (by omega) (by omega) z.1 z.2, pr, st, Int.natCast_ediv]
      rfl
theorem wf_0 {N : Int64} {k : Int32} {n K : Nat} (hN : N.toInt = (n : Int)) (hn : n ≤ 9999) (hk : k.toInt = (K : Int)) (h4 : K ≤ 4) (hl : K ≤ n) (s : Sg) : PQ (f_X12_waysOf N k s) (fun r s' => s' = s ∧ r.toInt = (bnk n K : Int)) := by
  unfold f_X12_waysOf
  exact wf_m hN hn hk h4 hl s BIG 1 0 0 rfl (Nat.zero_le K) rfl
theorem l_sub0 (x : Int64) : (x - 0).toInt = x.toInt := by
  have e : (x - 0).toInt = Int.bmod (x.toInt - (0 : Int64).toInt) 18446744073709551616 := Int64.toInt_sub x 0
  have l0 : (0 : Int64).toInt = 0 := rfl
  have a := Int64.toInt_lt x
  have b := Int64.le_toInt x
  rw [l0, bm64] at e
  omega
theorem ab_b {A B : Int} (hA : 0 ≤ A) (hB : 0 ≤ B) (a : A ≤ 10000000000000000) (b : B ≤ 10000000000000000) : A * B < 2 ^ 126 := by
  have q : A * B ≤ 10000000000000000 * 10000000000000000 := Int.mul_le_mul a b hB (by decide)
  exact Int.lt_of_le_of_lt q (by decide)
/-- what found makes of n grains with S of salt, K tasted -/
theorem eu_f {n S K : Nat} (hn : n ≤ 9999) (hS : S ≤ n) (h4 : K ≤ 4) (hl : K ≤ n) {r9 r12 r11 x : Int64} (e9 : r9.toInt = (fnk n K : Int)) (e12 : r12.toInt = (fnk S K : Int)) (e11 : r11.toInt = (bnk n K : Int)) (ex : x.toInt = (bnk n K : Int) - (bnk S K : Int)) (s t : Sg) : RQ (bd (f_X11_tellFraction (r9 - r12) r9 s) (fun _ s15 => bd (f_X11_granted s15) (fun r16 s17 => ck (r16 = 0 ∨ r16 = 1) (some (r16, s17))))) (bd (f_X12_tellsBy x r11 t) (fun r21 s22 => ck (r21 = 0 ∨ r21 = 1) (some (r21, s22)))) TbQ := by
  have f1 := fb_e hn h4
  have f2 := fb_e (n := S) (k := K) (by omega) h4
  have cp := fct_p K h4
  have mo := fnk_m hS K h4
  have po := fnk_p (n := n) K h4 hl
  have bf := fnk_b hn K h4
  have pb := pw_b h4
  have mb : bnk S K ≤ bnk n K := by
    rw [f1, f2] at mo
    exact Nat.le_of_mul_le_mul_left mo cp
  have bp : 0 < bnk n K := by
    rw [f1] at po
    exact Nat.pos_of_mul_pos_left po
  have g1 : (fnk n K : Int) = (fct K : Int) * (bnk n K : Int) := by rw [f1, Int.natCast_mul]
  have g2 : (fnk S K : Int) = (fct K : Int) * (bnk S K : Int) := by rw [f2, Int.natCast_mul]
  have hA : (0 : Int) ≤ (bnk n K : Int) - (bnk S K : Int) := by omega
  exact eu_t (c := (fct K : Int)) (A := (bnk n K : Int) - (bnk S K : Int)) (B := (bnk n K : Int)) (by omega) hA (by omega) (ab_b hA (by omega) (by omega) (by omega)) (by rw [l_sub (by rw [e9, e12]; omega) (by rw [e9, e12]; omega), e9, e12, g1, g2, Int.mul_sub]) (by rw [e9, g1]) ex e11 s t
theorem found_t {s t : Sg} {Kx : Int} (H : NowG 0 s t) (G : GnR (t.1 1) Kx) (hK : Kx ≤ 900000000) (T : TbE s t) (a n : Int32) : RQ (f_X11_found a n s) (f_X12_found a n t) TbQ := by
  have P := H.1.1
  have b0 := P.2.1.1.2
  have e1 : (1 : Int32).toInt = 1 := rfl
  have e4 : (4 : Int32).toInt = 4 := rfl
  unfold f_X11_found f_X12_found
  refine rq_f (P := (1 : Int32).toInt ≤ n.toInt ∧ n.toInt ≤ (4 : Int32).toInt) (wi_p n 1 4 s) (from_m n 1 4 t) Iff.rfl (fun n4 => ?_) (fun _ => ?_)
  · rw [if1]
    refine rq_wn (whyNo_c P a 1 (Or.inl ⟨rfl, trivial⟩)) (wrong_m a b0) ?_ (fun hh hg => ?_) (fun hh hg => ?_)
    · unfold f_X12_found_b21
      rw [if_neg (by decide), if_neg (by decide)]
      exact rf_t T 1
    · unfold f_X12_found_b21
      rw [if_neg (by decide), if_neg (by decide)]
      exact rf_t T 7
    · have hn := hs_n b0 hh
      have g := (G _ hn.2).1
      have gs := (gS H hn.2).1
      generalize hx : a.toInt.toNat = h at hn g gs
      unfold f_X12_found_b21
      rw [if_pos rfl, if_pos (show (0 : Int32) ≤ 0 by decide)]
      refine rq_v (ly_c H.1.2.1 hn.1 hn.2) (grains_m hn.1 hn.2 t) ?_
      refine rq_iC (fun c => rq_iM (fun _ => rf_t T 7) (fun d => absurd c d)) (fun c => rq_iM (fun d => absurd d c) (fun _ => ?_))
      refine rq_bM (grains_m hn.1 hn.2 t) (fun r7 t8 l => ?_)
      rw [l.1, l.2]
      refine rq_iC (fun c9 => rq_iM (fun _ => ?_) (fun d => absurd c9 d)) (fun c9 => rq_iM (fun d => absurd d c9) (fun _ => rf_t T 7))
      have hs : (lyM (t.1 1) h).toInt = (t.1 1 (16 + 3 * h)).toInt + (t.1 1 (17 + 3 * h)).toInt := i_addx _ _ (by omega)
      have u9 := i_le c9
      have e9 : (9999 : Int32).toInt = 9999 := rfl
      have u0 := i_nlt c
      obtain ⟨N, hN⟩ : ∃ N : Nat, (lyM (t.1 1) h).toInt = (N : Int) := ⟨(lyM (t.1 1) h).toInt.toNat, by omega⟩
      obtain ⟨S, hS⟩ : ∃ S : Nat, (t.1 1 (16 + 3 * h)).toInt = (S : Int) := ⟨(t.1 1 (16 + 3 * h)).toInt.toNat, by omega⟩
      obtain ⟨K, hK2⟩ : ∃ K : Nat, n.toInt = (K : Int) := ⟨n.toInt.toNat, by omega⟩
      have ia : a.toNatClampNeg = h := hx
      refine rq_bC (wt_0 hN (by omega) hK2 (by omega) s) (fun r9 s10 w9 => rq_cC (fun _ => ?_))
      rw [w9.1]
      refine rq_bC (wt_0 (n := S) (K := K) (by rw [ia, gs, hS]) (by omega) hK2 (by omega) s) (fun r12 s13 w12 => ?_)
      refine rq_bM (grains_m hn.1 hn.2 t) (fun r9' t10 l9 => ?_)
      rw [l9.1, l9.2]
      refine rq_bM (wf_0 (n := N) (K := K) (by rw [l_32, hN]) (by omega) hK2 (by omega) (by omega) t) (fun r11 t12 w11 => ?_)
      rw [w11.1]
      refine rq_bM (hr_p a t) (fun r13 t14 w13 => rq_cM (fun _ => ?_))
      rw [w13.1, w13.2, (hr_x hn.1 hn.2).1]
      have b1 := (fnk_b (n := N) (by omega) K (by omega)).2
      have b2 := pw_b (i := K) (by omega)
      refine rq_iM (fun c13 => ?_) (fun c13 => ?_)
      · have u13 := i_le c13
        refine rq_bM (hr_p a t) (fun r16 t17 w16 => rq_cM (fun _ => ?_))
        rw [w16.1, w16.2, (hr_x hn.1 hn.2).1]
        refine rq_bM (wf_0 (n := S) (K := K) (by rw [l_32, hS]) (by omega) hK2 (by omega) (by omega) t) (fun r19 t20 w19 => ?_)
        have mb : bnk S K ≤ bnk N K := by
          have mo := fnk_m (show S ≤ N by omega) K (by omega)
          rw [fb_e (n := N) (k := K) (by omega) (by omega), fb_e (n := S) (k := K) (by omega) (by omega)] at mo
          exact Nat.le_of_mul_le_mul_left mo (fct_p K (by omega))
        exact eu_f (n := N) (S := S) (K := K) (by omega) (by omega) (by omega) (by omega) w9.2 w12.2 w11.2 (by rw [l_sub (by rw [w11.2, w19.2]; omega) (by rw [w11.2, w19.2]; omega), w11.2, w19.2]) s13 t20
      · have u13 := i_nle c13
        have z : bnk S K = 0 := by
          have f := fb_e (n := S) (k := K) (by omega) (by omega)
          rw [fnk_0 (by omega) (by omega)] at f
          exact (Nat.mul_eq_zero.mp f.symm).elim (fun y => absurd y (Nat.ne_of_gt (fct_p K (by omega)))) id
        exact eu_f (n := N) (S := S) (K := K) (by omega) (by omega) (by omega) (by omega) w9.2 w12.2 w11.2 (by rw [l_sub0, w11.2, z]; omega) s13 t
  · rw [if0]
    unfold f_X12_found_b21
    refine rq_bC (whyNo_c P a 0 (Q := False) (Or.inr ⟨rfl, fun z => z⟩)) (fun r s3 k => ?_)
    obtain ⟨es, k⟩ := k
    subst es
    have k1 : r = 1 := by
      rcases k with k | k | k
      · exact k.1
      · exact k.2.1.2.elim
      · exact k.2.1.2.elim
    rw [k1, if_neg (by decide), if_neg (by decide)]
    exact rf_t T 1
theorem ods_t {s0 t0 : Sg} {K : Int} (hK : 9999 ≤ K ∧ K + 200000 ≤ 900000000) (H0 : NowG 0 s0 t0) (D0 : DyE s0 t0) (G0 : GnR (t0.1 1) K) (R0 : PrgR s0 (t0.1 1)) (n0 : ¬ s0.1 27 6 = 0) (W0 : RwQ t0) {a1 a2 a3 : Int32} (h3 : 1 ≤ a3.toInt ∧ a3.toInt ≤ 20) (ha : ∀ x, x < 32 → bt a1 x = true → (x : Int) < (t0.1 1 1).toInt) (m : Nat) : ∀ (m' : Nat) (v4 v5 : Int32) (s t : Sg), (0 ≤ v4.toInt ∧ v4.toInt ≤ v5.toInt ∧ v5.toInt ≤ 20) → EqP s0 s → SvD t0 t → RsM t0 t → RQ (f_X11_odds_b72 m a1 a2 a3 v4 v5 s) (f_X12_odds_b77 m' a1 a2 a3 v4 v5 t) TbQ := by
  induction m with
  | zero => intro m' v4 v5 s t _ _ _ _ r s' r' t' z; cases z
  | succ m ih =>
    intro m' v4 v5 s t V E S M
    cases m' with
    | zero => intro r s' r' t' _ z; cases z
    | succ m' =>
    unfold f_X11_odds_b72 f_X12_odds_b77
    refine rq_iC (fun c => rq_iM (fun _ => ?_) (fun d => absurd c d)) (fun c => rq_iM (fun d => absurd d c) (fun _ => ?_))
    · exact eu_t (c := 1) (A := v4.toInt) (B := a3.toInt) (by decide) V.1 (by omega) (ab_b V.1 (by omega) (by omega) (by omega)) (by rw [l_32, Int.one_mul]) (by rw [l_32, Int.one_mul]) (l_32 v4) (l_32 a3) s t
    have lt := i_nle c
    have e1 : (1 : Int32).toInt = 1 := rfl
    have p4 := i_addx v4 1 (by omega)
    have p5 := i_addx v5 1 (by omega)
    have p0 := add0 v4
    obtain ⟨H, D, G⟩ := now_e H0 D0 G0 E M.1 M.2
    have R : PrgR s (t.1 1) := prg_e R0 E.1 (fun p hp => by
      rcases hp with z | z | z
      · exact S.2 p (Or.inl ⟨z.1, by omega⟩)
      · exact S.2 p (Or.inr (Or.inl z))
      · exact S.2 p (Or.inr (Or.inr z)))
    refine rq_bC (cp53 s) (fun _ s20 cc => ?_)
    obtain ⟨Hz, Dz, Gz⟩ := spare_r H D G cc (fun _ _ => rfl) rfl
    have Ec := eqp_c cc
    have Rz : PrgR s20 (t.1 1) := prg_e R Ec.1 (fun _ _ => rfl)
    rcases prg_x Rz with y | ⟨X, y⟩
    · exfalso
      have e1 : s20.1 27 6 = s0.1 27 6 := congrFun ((Ec.1 27 (Or.inr (Or.inl rfl))).trans (E.1 27 (Or.inr (Or.inl rfl)))) 6
      exact n0 (e1.symm.trans y.1)
    · refine rq_b2 (rq_a (run_rz hK Hz Dz Gz y (a2 + v5)) (eqp_r _ s20) (svd_lives _ (bdk_of H0) W0 S)) (fun _ s22 _ t20 k => ?_)
      obtain ⟨L, Er, S'⟩ := k
      have Hl : NowG 27 s22 t20 := L.1.1.1
      have Pl := Hl.1.1
      have q1 : t20.1 1 1 = t0.1 1 1 := S'.2 1 (Or.inr (Or.inl (plp_0 (by decide))))
      refine rq_bM (so_p Pl.2.1.2.1 (soh_2 Pl)) (fun r21 t22 l => ?_)
      obtain ⟨et, l⟩ := l
      rw [et]
      have ae := anq_e (a := s22.1 53 5) (b := r21) (M := t20.1 1) (Q := (t20.1 1 1).toInt) (v := a1) Pl.2.1.2.1.2 (by rw [q1]; exact ha) (ovr_bz Hl) l
      have E' := eqp_t (eqp_t E Ec) Er
      have nx : ∀ v w : Int32, v = w → (0 ≤ w.toInt ∧ w.toInt ≤ (v5 + 1).toInt) → RQ (f_X11_odds_b72 m a1 a2 a3 v (v5 + 1) s22) (bd (f_X12_takesBack t20) (fun _ t24 => f_X12_odds_b77 m' a1 a2 a3 w (v5 + 1) t24)) TbQ := fun v w e V' => by
        rw [e]
        exact rq_bM (svd_t S') (fun _ t24 g => ih m' w (v5 + 1) s22 t24 ⟨V'.1, V'.2, by omega⟩ E' g.1 g.2)
      exact rq_iC (fun d => rq_iM (fun _ => nx _ _ rfl (by omega)) (fun z => absurd (ae.mp d) z)) (fun d => rq_iM (fun z => absurd (ae.mpr z) d) (fun _ => nx _ _ p0.symm (by rw [p0]; omega)))
theorem odds_t {s t : Sg} {K : Int} (hK : 9999 ≤ K ∧ K + 200000 ≤ 900000000) (H : NowG 0 s t) (D : DyE s t) (G : GnR (t.1 1) K) (R : PrgR s (t.1 1)) (W : RwQ t) (T : TbE s t) (a1 a2 a3 : Int32) : RQ (f_X11_odds a1 a2 a3 s) (f_X12_odds a1 a2 a3 t) TbQ := by
  have P := H.1.1
  unfold f_X11_odds f_X12_odds
  refine rq_f (iset_c P a1) (iset_m a1 t) Iff.rfl (fun hs => ?_) (fun _ => ?_)
  · rw [if1, if1]
    refine rq_f (P := (0 : Int32).toInt ≤ a2.toInt ∧ a2.toInt ≤ (9999 : Int32).toInt) (wi_p a2 0 9999 s) (from_m a2 0 9999 t) Iff.rfl (fun _ => ?_) (fun _ => ?_)
    · rw [if1, if1]
      refine rq_f (P := (1 : Int32).toInt ≤ a3.toInt ∧ a3.toInt ≤ (20 : Int32).toInt) (wi_p a3 1 20 s) (from_m a3 1 20 t) Iff.rfl (fun h3 => ?_) (fun _ => ?_)
      · rw [if1, if1]
        refine rq_iC (fun c => rq_iM (fun _ => ?_) (fun d => absurd c d)) (fun c => rq_iM (fun d => absurd d c) (fun _ => rf_t T _))
        rcases prg_x R with ⟨y1, y2⟩ | ⟨X, y⟩
        · rw [if_pos y1, if_pos y2]
          exact rf_t T _
        · have n11 : ¬ t.1 1 11 = -1 := fun z => by
            have w := y.1.2.2.1
            rw [z] at w
            have e : (-1 : Int32).toInt = -1 := rfl
            omega
          have n27 : ¬ s.1 27 6 = 0 := by rw [y.1.1]; decide
          rw [if_neg n27, if_neg n11]
          have hq : ∀ x, x < 32 → bt a1 x = true → (x : Int) < (t.1 1 1).toInt := setq_b P.2.1.2.1 hs
          exact rq_bM svd_k (fun _ t16 g => ods_t hK H D G R n27 W h3 hq BIG BIG 0 0 s t16 (by decide) ⟨fun _ _ => rfl, fun _ _ _ => rfl⟩ g.1 g.2)
      · rw [if0, if0]
        exact rf_t T _
    · rw [if0, if0]
      exact rf_t T _
  · rw [if0, if0]
    exact rf_t T _
