/-! grains' bounds on the reference's side -/
theorem i_div16 (a : Int32) (h : 0 ≤ a.toInt) : (a / 16).toInt = a.toInt / 16 := by
  have r := i_rg a
  have e : (a / 16).toInt = Int.bmod (a.toInt.tdiv (16 : Int32).toInt) 4294967296 := Int32.toInt_div _ _
  rw [e, show (16 : Int32).toInt = 16 from rfl, Int.tdiv_eq_ediv_of_nonneg h, bm32]
  omega
def GnR (M : Nat → Int32) (K : Int) : Prop := ∀ h : Nat, h < 8 → (0 ≤ (M (16 + 3 * h)).toInt ∧ 0 ≤ (M (17 + 3 * h)).toInt ∧ (M (16 + 3 * h)).toInt + (M (17 + 3 * h)).toInt ≤ K) ∧ 0 ≤ (M (18 + 3 * h)).toInt ∧ (M (18 + 3 * h)).toInt ≤ 99
theorem gn_up {M : Nat → Int32} {K K' : Int} (h : GnR M K) (hK : K ≤ K') : GnR M K' := fun x hx => by
  have := h x hx
  omega
theorem gn_c {M M' : Nat → Int32} {K : Int} (h : GnR M K) (e : ∀ p, 16 ≤ p → p < 40 → M' p = M p) : GnR M' K := fun x hx => by
  rw [e _ (by omega) (by omega), e _ (by omega) (by omega), e _ (by omega) (by omega)]
  exact h x hx
theorem gn_ly {M : Nat → Int32} {K : Int} (h : GnR M K) (hK : K ≤ 1000000000) {x : Nat} (hx : x < 8) : (lyM M x).toInt = (M (16 + 3 * x)).toInt + (M (17 + 3 * x)).toInt ∧ 0 ≤ (lyM M x).toInt ∧ (lyM M x).toInt ≤ K := by
  have w := h x hx
  have e : (lyM M x).toInt = (M (16 + 3 * x)).toInt + (M (17 + 3 * x)).toInt := i_addx _ _ (by omega)
  omega
theorem gn_room {M : Nat → Int32} {K : Int} (h : GnR M K) (hK : K ≤ 1000000000) {x : Nat} (hx : x < 8) {g : Int32} (hg : 0 ≤ g.toInt ∧ g.toInt ≤ 9999) (r : ¬ 9999 < lyM M x + g) : (M (16 + 3 * x)).toInt + (M (17 + 3 * x)).toInt + g.toInt ≤ 9999 := by
  have w := gn_ly h hK hx
  have e : (lyM M x + g).toInt = (lyM M x).toInt + g.toInt := i_addx _ _ (by omega)
  have c : (9999 : Int32).toInt = 9999 := rfl
  have := i_nlt r
  omega
/-- one house is changed -/
theorem gn_1 {M M' : Nat → Int32} {K : Int} (h : GnR M K) (x : Nat) (o : ∀ p, ¬ p = 16 + 3 * x → ¬ p = 17 + 3 * x → ¬ p = 18 + 3 * x → 16 ≤ p → p < 40 → M' p = M p) (n : (0 ≤ (M' (16 + 3 * x)).toInt ∧ 0 ≤ (M' (17 + 3 * x)).toInt ∧ (M' (16 + 3 * x)).toInt + (M' (17 + 3 * x)).toInt ≤ K) ∧ 0 ≤ (M' (18 + 3 * x)).toInt ∧ (M' (18 + 3 * x)).toInt ≤ 99) : GnR M' K := fun y hy => by
  by_cases z : y = x
  · subst z
    exact n
  · rw [o _ (by omega) (by omega) (by omega) (by omega) (by omega), o _ (by omega) (by omega) (by omega) (by omega) (by omega), o _ (by omega) (by omega) (by omega) (by omega) (by omega)]
    exact h y hy
theorem gn_strews {t : Sg} {K : Int} (G : GnR (t.1 1) K) (hK : 9999 ≤ K ∧ K ≤ 1000000000) {a : Int32} {h : Nat} (ha : a.toInt = (h : Int)) (hh : h < 8) {g : Int32} (hg : 0 ≤ g.toInt ∧ g.toInt ≤ 9999) (r : ¬ 9999 < lyM (t.1 1) h + g) : PQ (f_X12_strews a g t) (fun _ t' => GnR (t'.1 1) K) := pq_w (strews_m ha hh g t) (fun _ t' y => by
  have q := gn_room G hK.2 hh hg r
  have w := G h hh
  have e : (t.1 1 (16 + 3 * h) + g).toInt = (t.1 1 (16 + 3 * h)).toInt + g.toInt := i_addx _ _ (by omega)
  have k : ∀ p, 16 ≤ p → t'.1 1 p = if p = 16 + 3 * h then t.1 1 (16 + 3 * h) + g else t.1 1 p := fun p hp => by
    rw [y, pI_1, if_neg (fun z => by have := z.2; omega), pI_1]
    by_cases z : p = 16 + 3 * h
    · rw [if_pos ⟨rfl, z⟩, if_pos z]
    · rw [if_neg (fun u => z u.2), if_neg z]
  refine gn_1 G h (fun p h1 h2 h3 h4 _ => by rw [k p h4, if_neg h1]) ?_
  rw [k _ (by omega), if_pos rfl, k (17 + 3 * h) (by omega), if_neg (by omega), k (18 + 3 * h) (by omega), if_neg (by omega), e]
  omega)
theorem gn_sweeps {t : Sg} {K : Int} (G : GnR (t.1 1) K) (hK : 9999 ≤ K ∧ K ≤ 1000000000) {a : Int32} {h : Nat} (ha : a.toInt = (h : Int)) (hh : h < 8) : PQ (f_X12_sweeps a t) (fun r t' => GnR (t'.1 1) K ∧ 0 ≤ r.toInt ∧ r.toInt ≤ K) := by
  have y := hr_x ha hh
  have w := G h hh
  unfold f_X12_sweeps
  refine pq_b (grains_m ha hh t) (fun r1 s2 z => ?_)
  obtain ⟨es, e1⟩ := z
  rw [es]
  refine pq_b (hr_p a t) (fun r3 s4 z => ?_)
  obtain ⟨es, er⟩ := z
  rw [es, er]
  refine pq_c (fun _ => pq_b (hr_p a _) (fun r6 s7 z => ?_))
  obtain ⟨es, er⟩ := z
  rw [es, er, y.1]
  refine pq_c (fun _ => pq_n (fun s9 e9 => pq_s ?_))
  rw [y.2.1] at e9
  have k : ∀ p, 16 ≤ p → (pI s9 1 7 ((s9.1 1 7) + r1)).1 1 p = if p = 17 + 3 * h then 0 else if p = 16 + 3 * h then 0 else t.1 1 p := fun p hp => by
    rw [pI_1, if_neg (fun z => by have := z.2; omega), e9, pI_1]
    by_cases z : p = 17 + 3 * h
    · rw [if_pos ⟨rfl, z⟩, if_pos z]
    · rw [if_neg (fun u => z u.2), if_neg z, pI_1]
      by_cases z2 : p = 16 + 3 * h
      · rw [if_pos ⟨rfl, z2⟩, if_pos z2]
      · rw [if_neg (fun u => z2 u.2), if_neg z2]
  have e0 : (0 : Int32).toInt = 0 := rfl
  refine ⟨gn_1 G h (fun p h1 h2 h3 h4 _ => by rw [k p h4, if_neg h2, if_neg h1]) ?_, ?_⟩
  · rw [k (16 + 3 * h) (by omega), if_neg (by omega), if_pos rfl, k (17 + 3 * h) (by omega), if_pos rfl, k (18 + 3 * h) (by omega), if_neg (by omega), if_neg (by omega)]
    omega
  · rw [e1]
    exact (gn_ly G hK.2 hh).2
theorem gn_buys {t : Sg} {K : Int} (G : GnR (t.1 1) K) (hK : 9999 ≤ K ∧ K ≤ 1000000000) {a c n : Int32} {g h : Nat} (ha : a.toInt = (g : Int)) (hg : g < 4) (hc : c.toInt = (h : Int)) (hh : h < 8) (hn : 0 ≤ n.toInt ∧ n.toInt ≤ 999) (hs : 0 ≤ (t.1 1 (94 + 3 * g)).toInt ∧ (t.1 1 (94 + 3 * g)).toInt ≤ 16) (r : ¬ 9999 < lyM (t.1 1) h + n) : PQ (f_X12_buys a n c t) (fun _ t' => GnR (t'.1 1) K) := by
  have x := gx_x ha hg
  have y := hr_x hc hh
  have q := gn_room G hK.2 hh ⟨hn.1, by omega⟩ r
  have w := G h hh
  unfold f_X12_buys
  refine pq_c (fun _ => pq_n (fun x2 e2 => pq_c (fun _ => pq_n (fun s4 e4 => pq_c (fun _ => pq_n (fun s6 e6 => ?_))))))
  rw [x.2.2] at e2
  rw [x.1] at e4
  have hm : (0 : Int) * 0 ≤ n.toInt * (t.1 1 (94 + 3 * g)).toInt := Int.mul_le_mul hn.1 hs.1 (Int.le_refl 0) hn.1
  have hm0 : 0 ≤ n.toInt * (t.1 1 (94 + 3 * g)).toInt := by omega
  have hm1 : n.toInt * (t.1 1 (94 + 3 * g)).toInt ≤ n.toInt * 16 := Int.mul_le_mul (Int.le_refl _) hs.2 hs.1 hn.1
  have em : (n * (t.1 1 (94 + 3 * g))).toInt = n.toInt * (t.1 1 (94 + 3 * g)).toInt := i_mulx _ _ (by omega)
  have ex : x2.toInt = n.toInt * (t.1 1 (94 + 3 * g)).toInt / 16 := by rw [e2, i_div16 _ (by rw [em]; exact hm0), em]
  have hx2 : 0 ≤ x2.toInt ∧ x2.toInt ≤ n.toInt := by omega
  have en : (n - x2).toInt = n.toInt - x2.toInt := i_subx _ _ (by omega)
  have k6 : ∀ p, 16 ≤ p → p < 40 → s6.1 1 p = t.1 1 p := fun p h1 h2 => by
    rw [e6, pI_1, if_neg (fun z => by have := z.2; omega), e4, pI_1, if_neg (fun z => by have := z.2; omega)]
  refine pq_b (strews_m hc hh _ s6) (fun _ s8 e8 => pq_b (hr_p c s8) (fun r9 s10 z => ?_))
  obtain ⟨es, er⟩ := z
  rw [es, er]
  refine pq_c (fun _ => pq_n (fun s12 e12 => pq_s ?_))
  rw [y.2.1] at e12
  have k8 : ∀ p, 16 ≤ p → p < 40 → s8.1 1 p = if p = 16 + 3 * h then t.1 1 (16 + 3 * h) + (n - x2) else t.1 1 p := fun p h1 h2 => by
    rw [e8, pI_1, if_neg (fun z => by have := z.2; omega), pI_1]
    by_cases z : p = 16 + 3 * h
    · rw [if_pos ⟨rfl, z⟩, if_pos z, k6 _ (by omega) (by omega)]
    · rw [if_neg (fun u => z u.2), if_neg z, k6 p h1 h2]
  have k : ∀ p, 16 ≤ p → p < 40 → (pI s12 1 5 ((s12.1 1 5) + x2)).1 1 p = if p = 17 + 3 * h then t.1 1 (17 + 3 * h) + x2 else if p = 16 + 3 * h then t.1 1 (16 + 3 * h) + (n - x2) else t.1 1 p := fun p h1 h2 => by
    rw [pI_1, if_neg (fun z => by have := z.2; omega), e12, pI_1]
    by_cases z : p = 17 + 3 * h
    · rw [if_pos ⟨rfl, z⟩, if_pos z, k8 _ (by omega) (by omega), if_neg (by omega)]
    · rw [if_neg (fun u => z u.2), if_neg z, k8 p h1 h2]
  have a1 : (t.1 1 (17 + 3 * h) + x2).toInt = (t.1 1 (17 + 3 * h)).toInt + x2.toInt := i_addx _ _ (by omega)
  have a2 : (t.1 1 (16 + 3 * h) + (n - x2)).toInt = (t.1 1 (16 + 3 * h)).toInt + (n.toInt - x2.toInt) := by rw [i_addx _ _ (by omega), en]
  refine gn_1 G h (fun p h1 h2 h3 h4 h5 => by rw [k p h4 h5, if_neg h2, if_neg h1]) ?_
  rw [k (16 + 3 * h) (by omega) (by omega), if_neg (by omega), if_pos rfl, k (17 + 3 * h) (by omega) (by omega), if_pos rfl, k (18 + 3 * h) (by omega) (by omega), if_neg (by omega), if_neg (by omega), a1, a2]
  omega
theorem gn_rains {K : Int} (hK : 9999 ≤ K ∧ K ≤ 1000000000) (m : Nat) : ∀ (i : Nat) (v1 v2 : Int32) (t : Sg), v2.toInt = (i : Int) → i ≤ 8 → GnR (t.1 1) K → (0 ≤ (t.1 1 0).toInt ∧ (t.1 1 0).toInt ≤ 8) → 0 ≤ (t.1 1 13).toInt → PQ (f_X12_rains_b4 m v1 v2 t) (fun _ t' => GnR (t'.1 1) K) := by
  induction m with
  | zero => intro i v1 v2 t _ _ _ _ _ r t' z; cases z
  | succ m ih =>
    intro i v1 v2 t hv hi G b0 b13
    have e1 : (1 : Int32).toInt = 1 := rfl
    unfold f_X12_rains_b4
    refine pq_if (fun _ => pq_n (fun s1 f1 => pq_s ?_)) (fun c => ?_)
    · rw [f1]
      exact gn_c G (fun p h1 h2 => by rw [pI_1, if_neg (fun z => by have := z.2; omega), pI_1, if_neg (fun z => by have := z.2; omega)])
    · have c := i_nle c
      have hh : i < 8 := by omega
      have y := hr_x hv hh
      have w := G i hh
      refine pq_b (hr_p v2 t) (fun r2 s3 z => ?_)
      obtain ⟨es, er⟩ := z
      rw [es, er]
      refine pq_c (fun _ => pq_n (fun x5 f5 => pq_c (fun _ => pq_n (fun x7 _ => pq_n (fun s8 e8 => pq_n (fun s9 e9 => ?_))))))
      rw [y.1] at f5 e8
      rw [y.2.1] at e9
      have h5 : 0 ≤ x5.toInt ∧ x5.toInt ≤ (t.1 1 (16 + 3 * i)).toInt := by
        rw [f5]
        by_cases z : t.1 1 13 < t.1 1 (16 + 3 * i)
        · rw [if_pos z]
          have := i_lt z
          omega
        · rw [if_neg z]
          omega
      have es5 : (t.1 1 (16 + 3 * i) - x5).toInt = (t.1 1 (16 + 3 * i)).toInt - x5.toInt := i_subx _ _ (by omega)
      have e0 : (0 : Int32).toInt = 0 := rfl
      have k : ∀ p, s9.1 1 p = if p = 17 + 3 * i then 0 else if p = 16 + 3 * i then t.1 1 (16 + 3 * i) - x5 else t.1 1 p := fun p => by
        rw [e9, pI_1]
        by_cases z : p = 17 + 3 * i
        · rw [if_pos ⟨rfl, z⟩, if_pos z]
        · rw [if_neg (fun u => z u.2), if_neg z, e8, pI_1]
          by_cases z2 : p = 16 + 3 * i
          · rw [if_pos ⟨rfl, z2⟩, if_pos z2]
          · rw [if_neg (fun u => z2 u.2), if_neg z2]
      refine ih (i + 1) x7 (v2 + 1) s9 (by rw [i_addx _ _ (by omega)]; omega) (by omega) ?_ ?_ ?_
      · refine gn_1 G i (fun p h1 h2 h3 h4 h5 => by rw [k p, if_neg h2, if_neg h1]) ?_
        rw [k (16 + 3 * i), if_neg (by omega), if_pos rfl, k (17 + 3 * i), if_pos rfl, k (18 + 3 * i), if_neg (by omega), if_neg (by omega), es5]
        omega
      · rw [k 0, if_neg (by omega), if_neg (by omega)]
        exact b0
      · rw [k 13, if_neg (by omega), if_neg (by omega)]
        exact b13
theorem gn_snows {K : Int} (v1 : Int32) (h1 : 0 ≤ v1.toInt ∧ v1.toInt ≤ 9999) (m : Nat) : ∀ (i : Nat) (v2 : Int32) (t : Sg), v2.toInt = (i : Int) → i ≤ 8 → GnR (t.1 1) K → (0 ≤ (t.1 1 0).toInt ∧ (t.1 1 0).toInt ≤ 8) → PQ (f_X12_snows_b2 m v1 v2 t) (fun _ t' => GnR (t'.1 1) K) := by
  induction m with
  | zero => intro i v2 t _ _ _ _ r t' z; cases z
  | succ m ih =>
    intro i v2 t hv hi G b0
    have e1 : (1 : Int32).toInt = 1 := rfl
    have c99 : (99 : Int32).toInt = 99 := rfl
    unfold f_X12_snows_b2
    refine pq_if (fun _ => pq_s G) (fun c => ?_)
    have c := i_nle c
    have hh : i < 8 := by omega
    have y := hr_x hv hh
    have w := G i hh
    have a1 : (v2 + 1).toInt = ((i + 1 : Nat) : Int) := by rw [i_addx _ _ (by omega)]; omega
    refine pq_b (gone_m hv (by omega) t) (fun r1 s2 z => ?_)
    obtain ⟨es, -⟩ := z
    rw [es]
    refine pq_if (fun _ => ?_) (fun _ => ih (i + 1) (v2 + 1) t a1 (by omega) G b0)
    refine pq_b (hr_p v2 t) (fun r3 s4 z => ?_)
    obtain ⟨es, er⟩ := z
    rw [es, er]
    refine pq_b (hr_p v2 t) (fun r5 s6 z => ?_)
    obtain ⟨es, er⟩ := z
    rw [es, er]
    refine pq_c (fun _ => pq_c (fun _ => pq_n (fun s9 e9 => ?_)))
    rw [y.2.2] at e9
    have ea : (t.1 1 (18 + 3 * i) + v1).toInt = (t.1 1 (18 + 3 * i)).toInt + v1.toInt := i_addx _ _ (by omega)
    have k : ∀ p, ¬ p = 18 + 3 * i → s9.1 1 p = t.1 1 p := fun p hp => by rw [e9, pI_1, if_neg (fun u => hp u.2)]
    refine ih (i + 1) (v2 + 1) s9 a1 (by omega) (gn_1 G i (fun p z1 z2 z3 z4 z5 => k p z3) ?_) (by rw [k 0 (by omega)]; exact b0)
    rw [k (16 + 3 * i) (by omega), k (17 + 3 * i) (by omega), e9, q_eq]
    refine ⟨w.1, ?_⟩
    by_cases z : t.1 1 (18 + 3 * i) + v1 < 99
    · rw [if_pos z]
      have := i_lt z
      omega
    · rw [if_neg z]
      omega
theorem gn_min {a n : Int32} {x : Int32} (h : x = if a < n then a else n) : x.toInt ≤ a.toInt ∧ x.toInt ≤ n.toInt ∧ (0 ≤ a.toInt → 0 ≤ n.toInt → 0 ≤ x.toInt) := by
  rw [h]
  by_cases z : a < n
  · rw [if_pos z]
    have := i_lt z
    omega
  · rw [if_neg z]
    have := i_nlt z
    omega
/-- grains are carried: the other house has n more at the most -/
theorem gn_brings {t : Sg} {K : Int} (G : GnR (t.1 1) K) (hK : 9999 ≤ K ∧ K ≤ 1000000000) {a b n : Int32} {h j : Nat} (ha : a.toInt = (h : Int)) (hh : h < 8) (hb : b.toInt = (j : Int)) (hj : j < 8) (hn : 0 ≤ n.toInt ∧ n.toInt ≤ 9999) : PQ (f_X12_brings a b n t) (fun _ t' => ∀ x, x < 8 → (0 ≤ (t'.1 1 (16 + 3 * x)).toInt ∧ 0 ≤ (t'.1 1 (17 + 3 * x)).toInt ∧ (t'.1 1 (16 + 3 * x)).toInt + (t'.1 1 (17 + 3 * x)).toInt ≤ (t.1 1 (16 + 3 * x)).toInt + (t.1 1 (17 + 3 * x)).toInt + (if x = j then n.toInt else 0)) ∧ (∀ p, ¬ (16 ≤ p ∧ p < 40) → t'.1 1 p = t.1 1 p) ∧ t'.1 1 (18 + 3 * x) = t.1 1 (18 + 3 * x)) := by
  have y := hr_x ha hh
  have z := hr_x hb hj
  have wa := G h hh
  have wb := G j hj
  unfold f_X12_brings
  refine pq_b (hr_p a t) (fun r3 s4 w => ?_)
  obtain ⟨es, er⟩ := w
  rw [es, er]
  refine pq_c (fun _ => pq_n (fun x4 f4 => pq_b (hr_p a t) (fun r5 s6 w => ?_)))
  obtain ⟨es, er⟩ := w
  rw [es, er]
  refine pq_c (fun _ => pq_n (fun x8 f8 => pq_b (hr_p a t) (fun r9 s10 w => ?_)))
  obtain ⟨es, er⟩ := w
  rw [es, er]
  rw [y.1] at f4
  rw [y.2.1] at f8
  have m4 := gn_min f4
  have m8 := gn_min f8
  have en : (n - x4).toInt = n.toInt - x4.toInt := i_subx _ _ (by omega)
  refine pq_c (fun _ => pq_n (fun s12 e12 => ?_))
  rw [y.1] at e12
  refine pq_b (hr_p a s12) (fun r13 s14 w => ?_)
  obtain ⟨es, er⟩ := w
  rw [es, er]
  refine pq_c (fun _ => pq_n (fun s16 e16 => ?_))
  rw [y.2.1] at e16
  refine pq_b (hr_p b s16) (fun r17 s18 w => ?_)
  obtain ⟨es, er⟩ := w
  rw [es, er]
  refine pq_c (fun _ => pq_n (fun s20 e20 => ?_))
  rw [z.1] at e20
  refine pq_b (hr_p b s20) (fun r21 s22 w => ?_)
  obtain ⟨es, er⟩ := w
  rw [es, er]
  refine pq_c (fun _ => pq_n (fun s24 e24 => pq_s ?_))
  rw [z.2.1] at e24
  have b1 : (t.1 1 (16 + 3 * h) - x4).toInt = (t.1 1 (16 + 3 * h)).toInt - x4.toInt := i_subx _ _ (by omega)
  have b2 : (t.1 1 (17 + 3 * h) - x8).toInt = (t.1 1 (17 + 3 * h)).toInt - x8.toInt := i_subx _ _ (by omega)
  have k12 : ∀ p, s12.1 1 p = if p = 16 + 3 * h then t.1 1 (16 + 3 * h) - x4 else t.1 1 p := fun p => by
    rw [e12, pI_1]
    by_cases u : p = 16 + 3 * h
    · rw [if_pos ⟨rfl, u⟩, if_pos u]
    · rw [if_neg (fun v => u v.2), if_neg u]
  have k16 : ∀ p, s16.1 1 p = if p = 17 + 3 * h then t.1 1 (17 + 3 * h) - x8 else if p = 16 + 3 * h then t.1 1 (16 + 3 * h) - x4 else t.1 1 p := fun p => by
    rw [e16, pI_1]
    by_cases u : p = 17 + 3 * h
    · rw [if_pos ⟨rfl, u⟩, if_pos u, k12, if_neg (by omega)]
    · rw [if_neg (fun v => u v.2), if_neg u, k12]
  have k20 : ∀ p, s20.1 1 p = if p = 16 + 3 * j then s16.1 1 (16 + 3 * j) + x4 else s16.1 1 p := fun p => by
    rw [e20, pI_1]
    by_cases u : p = 16 + 3 * j
    · rw [if_pos ⟨rfl, u⟩, if_pos u]
    · rw [if_neg (fun v => u v.2), if_neg u]
  have k24 : ∀ p, s24.1 1 p = if p = 17 + 3 * j then s16.1 1 (17 + 3 * j) + x8 else if p = 16 + 3 * j then s16.1 1 (16 + 3 * j) + x4 else s16.1 1 p := fun p => by
    rw [e24, pI_1]
    by_cases u : p = 17 + 3 * j
    · rw [if_pos ⟨rfl, u⟩, if_pos u, k20, if_neg (by omega)]
    · rw [if_neg (fun v => u v.2), if_neg u, k20]
  intro x hx
  have wx := G x hx
  refine ⟨?_, fun p hp => ?_, ?_⟩
  · rw [k24 (16 + 3 * x), if_neg (by omega), k24 (17 + 3 * x)]
    by_cases u : x = j
    · subst u
      rw [if_pos rfl, if_pos rfl, if_pos rfl, k16 (16 + 3 * x), if_neg (by omega), k16 (17 + 3 * x)]
      by_cases v : x = h
      · subst v
        rw [if_pos rfl, if_pos rfl, i_addx _ _ (by omega), i_addx _ _ (by omega)]
        omega
      · rw [if_neg (by omega), if_neg (by omega), if_neg (by omega), i_addx _ _ (by omega), i_addx _ _ (by omega)]
        omega
    · rw [if_neg (by omega), if_neg (by omega), if_neg (by omega), if_neg u, k16 (16 + 3 * x), if_neg (by omega), k16 (17 + 3 * x)]
      by_cases v : x = h
      · subst v
        rw [if_pos rfl, if_pos rfl]
        omega
      · rw [if_neg (by omega), if_neg (by omega), if_neg (by omega)]
        omega
  · rw [k24, if_neg (by omega), if_neg (by omega), k16, if_neg (by omega), if_neg (by omega)]
  · rw [k24, if_neg (by omega), if_neg (by omega), k16, if_neg (by omega), if_neg (by omega)]
theorem gn_of_b {M M' : Nat → Int32} {K : Int} {j : Nat} {n : Int} (G : GnR M K) (hn : 0 ≤ n) (h : ∀ x, x < 8 → (0 ≤ (M' (16 + 3 * x)).toInt ∧ 0 ≤ (M' (17 + 3 * x)).toInt ∧ (M' (16 + 3 * x)).toInt + (M' (17 + 3 * x)).toInt ≤ (M (16 + 3 * x)).toInt + (M (17 + 3 * x)).toInt + (if x = j then n else 0)) ∧ (∀ p, ¬ (16 ≤ p ∧ p < 40) → M' p = M p) ∧ M' (18 + 3 * x) = M (18 + 3 * x)) : GnR M' (K + n) := fun x hx => by
  obtain ⟨⟨a, b, c⟩, -, d⟩ := h x hx
  have g := G x hx
  rw [d]
  by_cases z : x = j
  · rw [if_pos z] at c
    omega
  · rw [if_neg z] at c
    omega
theorem gn_157 {t : Sg} {K : Int} (B : BdK t) (G : GnR (t.1 1) K) : PQ (f_X12_nightGoes_b157 BIG 0 (pI (pI t 0 25 0) 0 26 0)) (fun _ t' => GnR (t'.1 1) K) := by
  refine pq_w (ng_157 (M := t.1 1) (t0 := pI (pI t 0 25 0) 0 26 0) (by rw [pI_o _ _ _ _ _ (by decide), pI_o _ _ _ _ _ (by decide)]) B.2.2.2.2.1 (by rw [q_ne rfl, q_ne rfl]; exact B.2.2.2.2.2) B.2.1 BIG 0 0 _ rfl B.2.1.1 ⟨fun q hq => absurd hq (Nat.not_lt_zero _), fun p _ => by rw [q_nc rfl, q_nc rfl], ⟨fun _ _ _ => rfl, fun _ _ _ => rfl, rfl⟩, by rw [q_ne rfl, q_eq]; rfl, by rw [q_eq]; rfl⟩) (fun _ t' w => ?_)
  obtain ⟨t2, ⟨-, w2, -⟩, y⟩ := w
  refine gn_c G (fun p h1 h2 => ?_)
  rw [y, pI_1, if_neg (fun z => by have := z.2; omega), pI_1, if_neg (fun z => by have := z.2; omega)]
  exact w2 p (fun q _ => by omega)
theorem gn_73 {t0 : Sg} {K : Int} (hK : 9999 ≤ K ∧ K ≤ 1000000000) (B : BdK t0) (m : Nat) : ∀ (i : Nat) (v : Int32) (t : Sg), v.toInt = (i : Int) → i ≤ 8 → KL false t0 t → GnR (t.1 1) K → PQ (f_X12_nightGoes_b73 m v t) (fun _ t' => GnR (t'.1 1) K) := by
  induction m with
  | zero => intro i v t _ _ _ _ r t' z; cases z
  | succ m ih =>
    intro i v t hv hi Q G
    have e1 : (1 : Int32).toInt = 1 := rfl
    have b0 := (bdk_k B Q).1.2
    unfold f_X12_nightGoes_b73
    refine pq_if (fun _ => gn_157 (bdk_k B Q) G) (fun c => ?_)
    have c := i_nle c
    have hh : i < 8 := by omega
    have y := hr_x hv hh
    have w := G i hh
    refine pq_b (hr_p v t) (fun r2 s3 z => ?_)
    obtain ⟨es, er⟩ := z
    rw [es, er]
    refine pq_c (fun _ => pq_c (fun _ => pq_n (fun x19 f19 => pq_n (fun s20 e20 => pq_n (fun s21 e21 => ?_)))))
    rw [y.1] at f19 e20
    rw [y.2.2] at f19 e21
    have mn := gn_min f19
    have k20 : ∀ p, s20.1 1 p = if p = 16 + 3 * i then t.1 1 (16 + 3 * i) - x19 else t.1 1 p := fun p => by
      rw [e20, pI_1]
      by_cases u : p = 16 + 3 * i
      · rw [if_pos ⟨rfl, u⟩, if_pos u]
      · rw [if_neg (fun v => u v.2), if_neg u]
    have k21 : ∀ p, s21.1 1 p = if p = 18 + 3 * i then t.1 1 (18 + 3 * i) - x19 else if p = 16 + 3 * i then t.1 1 (16 + 3 * i) - x19 else t.1 1 p := fun p => by
      rw [e21, pI_1]
      by_cases u : p = 18 + 3 * i
      · rw [if_pos ⟨rfl, u⟩, if_pos u, k20, if_neg (by omega)]
      · rw [if_neg (fun v => u v.2), if_neg u, k20]
    have b1 : (t.1 1 (16 + 3 * i) - x19).toInt = (t.1 1 (16 + 3 * i)).toInt - x19.toInt := i_subx _ _ (by omega)
    have b2 : (t.1 1 (18 + 3 * i) - x19).toInt = (t.1 1 (18 + 3 * i)).toInt - x19.toInt := i_subx _ _ (by omega)
    have kq : KL false t0 (pI s21 1 8 ((s21.1 1 8) + x19)) := by
      refine kl_i ?_ (gpl_f (Or.inl (by decide)))
      rw [e21, e20]
      exact kl_i (kl_i Q (gpl_h hh (Or.inl rfl))) (gpl_h hh (Or.inr (Or.inr rfl)))
    refine ih (i + 1) (v + 1) _ (by rw [i_addx _ _ (by omega)]; omega) (by omega) kq (gn_1 G i (fun p h1 h2 h3 h4 h5 => ?_) ?_)
    · rw [pI_1, if_neg (fun z => by have := z.2; omega), k21, if_neg h3, if_neg h1]
    · rw [pI_1, if_neg (fun z => by have := z.2; omega), pI_1, if_neg (fun z => by have := z.2; omega), pI_1, if_neg (fun z => by have := z.2; omega), k21 (16 + 3 * i), if_neg (by omega), if_pos rfl, k21 (17 + 3 * i), if_neg (by omega), if_neg (by omega), k21 (18 + 3 * i), if_pos rfl, b1, b2]
      omega
theorem gn_b2 {t0 : Sg} {K : Int} (hK : 9999 ≤ K ∧ K ≤ 900000000) (B : BdK t0) (hc : ∀ c : Nat, (c : Int) < (t0.1 1 2).toInt → 1 ≤ (t0.1 1 (82 + 3 * c)).toInt ∧ (t0.1 1 (82 + 3 * c)).toInt ≤ 99) (m : Nat) : ∀ (i : Nat) (v : Int32) (t : Sg), v.toInt = (i : Int) → i ≤ 4 → KL false t0 t → GnR (t.1 1) (K + 99 * i) → PQ (f_X12_nightGoes_b2 m v t) (fun _ t' => GnR (t'.1 1) (K + 400)) := by
  induction m with
  | zero => intro i v t _ _ _ _ r t' z; cases z
  | succ m ih =>
    intro i v t hv hi Q G
    have e1 : (1 : Int32).toInt = 1 := rfl
    have b := bdk_k B Q
    have b2 := b.2.2.1.2
    have a1 : (v + 1).toInt = ((i + 1 : Nat) : Int) := by rw [i_addx _ _ (by omega)]; omega
    have gu : GnR (t.1 1) (K + 99 * ((i + 1 : Nat) : Int)) := gn_up G (by omega)
    unfold f_X12_nightGoes_b2
    refine pq_if (fun _ => gn_73 (K := K + 400) (by omega) B BIG 0 0 t rfl (by decide) Q (gn_up G (by omega))) (fun c => ?_)
    have c := i_nle c
    have hi4 : i < 4 := by omega
    have x := cx_x hv hi4
    have hb := b.2.2.2.1 i (by omega)
    refine pq_c (fun _ => pq_b (hr_p _ t) (fun r2 s3 w => ?_))
    obtain ⟨es, er⟩ := w
    rw [es]
    refine pq_c (fun _ => pq_if (fun _ => pq_c (fun _ => pq_c (fun _ => ?_))) (fun _ => ih (i + 1) (v + 1) t a1 (by omega) Q gu))
    have e82 : t.1 1 (82 + 3 * i) = t0.1 1 (82 + 3 * i) := Q.2.1 _ (plq (plp_c hi4).2.2)
    have e2 : t.1 1 2 = t0.1 1 2 := Q.2.1 _ (plq (plp_0 (by omega)))
    have n82 := hc i (by rw [← e2]; omega)
    rw [← e82] at n82
    refine pq_b (pq_and (gn_brings G (by omega) (h := (t.1 1 (80 + 3 * i)).toInt.toNat) (j := (t.1 1 (81 + 3 * i)).toInt.toNat) (by rw [x.1]; omega) (by omega) (by rw [x.2.1]; omega) (by omega) ⟨by rw [x.2.2]; omega, by rw [x.2.2]; omega⟩) (kl_brings Q (h := (t.1 1 (80 + 3 * i)).toInt.toNat) (j := (t.1 1 (81 + 3 * i)).toInt.toNat) (by rw [x.1]; omega) (by omega) (by rw [x.2.1]; omega) (by omega) _)) (fun _ s29 k => ih (i + 1) (v + 1) s29 a1 (by omega) k.2 (gn_up (gn_of_b G (by rw [x.2.2]; omega) k.1) (by rw [x.2.2]; omega)))
theorem gn_night {t : Sg} {K : Int} (hK : 9999 ≤ K ∧ K ≤ 900000000) (B : BdK t) (hc : ∀ c : Nat, (c : Int) < (t.1 1 2).toInt → 1 ≤ (t.1 1 (82 + 3 * c)).toInt ∧ (t.1 1 (82 + 3 * c)).toInt ≤ 99) (G : GnR (t.1 1) K) : PQ (f_X12_nightGoes t) (fun _ t' => GnR (t'.1 1) (K + 400)) := gn_b2 hK B hc BIG 0 0 t rfl (by decide) kl_r (gn_up G (by omega))
