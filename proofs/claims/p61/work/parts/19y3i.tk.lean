/-! grains' bounds through the calls of the reference; a night's call; best gives back what it lays -/
def Gq (K : Int) (_ : Int32) (t : Sg) : Prop := GnR (t.1 1) K
theorem gq_rf {t : Sg} {K : Int} (G : GnR (t.1 1) K) (w : Int32) : PQ (bd (f_X12_refuse w t) (fun r t => some (r, t))) (Gq K) := by
  have q : PQ (some ((-1 : Int32), pI t 0 2 w)) (Gq K) := pq_s (gn_c G (fun p _ _ => q_nc rfl))
  exact q
theorem gq_gv {t : Sg} {K : Int} (G : GnR (t.1 1) K) (v : Int32) : PQ (bd (f_X12_gives v t) (fun r t => some (r, t))) (Gq K) := by
  have q : PQ (some (v, pI t 0 2 0)) (Gq K) := pq_s (gn_c G (fun p _ _ => q_nc rfl))
  exact q
theorem gq_is {t : Sg} {K : Int} (G : GnR (t.1 1) K) (w : Int32) : PQ (bd (f_X12_is w t) (fun r t => ck (r = 0 ∨ r = 1) (some (r, t)))) (Gq K) := by
  refine pq_b (P := fun _ t' => GnR (t'.1 1) K) ?_ (fun r t2 g => pq_c (fun _ => pq_s g))
  unfold f_X12_is
  exact pq_if (fun _ => pq_s (gn_c G (fun p _ _ => q_nc rfl))) (fun _ => pq_s (gn_c G (fun p _ _ => q_nc rfl)))
theorem gq_strew (a g : Int32) {t : Sg} {K : Int} (hK : 9999 ≤ K ∧ K ≤ 900000000) (B : BdK t) (G : GnR (t.1 1) K) : PQ (f_X12_strew a g t) (Gq K) := by
  have b0 := B.1.2
  have e1 : (1 : Int32).toInt = 1 := rfl
  have e999 : (999 : Int32).toInt = 999 := rfl
  have fin : ∀ r, (¬ r = 1 → HsM (t.1 1) a ∧ 1 ≤ g.toInt ∧ g.toInt ≤ 999) → PQ (f_X12_strew_b21 a g r t) (Gq K) := fun r hr => by
    unfold f_X12_strew_b21
    refine pq_if (fun _ => gq_rf G 1) (fun n => ?_)
    obtain ⟨hs, g1, g2⟩ := hr n
    obtain ⟨h, ha, hh⟩ := hs_t b0 hs
    refine pq_b (room_m ha hh g t) (fun r5 t6 k => ?_)
    obtain ⟨et, k⟩ := k
    subst et
    refine pq_if (fun _ => gq_rf G 4) (fun c => pq_if (fun _ => gq_rf G 7) (fun _ => pq_b (gn_strews G ⟨hK.1, by omega⟩ ha hh (g := g) (by omega) (r1_y k c)) (fun _ t12 k => pq_b (hr_p a t12) (fun r13 t14 e => pq_c (fun _ => ?_)))))
    obtain ⟨et, -⟩ := e
    subst et
    exact gq_gv k _
  unfold f_X12_strew
  refine pq_b (from_m g 1 999 t) (fun r1 t2 k => ?_)
  obtain ⟨et, k⟩ := k
  subst et
  refine pq_if (fun _ => fin 1 (fun z => absurd rfl z)) (fun c => pq_b (wrong_m a b0) (fun r t3 l => ?_))
  have y := r1_y k c
  obtain ⟨et, l⟩ := l
  subst et
  exact fin r (fun n => ⟨wn_hs l n, by omega, by omega⟩)
theorem gq_buy (a g h : Int32) {t : Sg} {K : Int} (hK : 9999 ≤ K ∧ K ≤ 900000000) (B : BdK t) (b3 : (t.1 1 3).toInt ≤ 4) (hS : ∀ g : Nat, (g : Int) < (t.1 1 3).toInt → 0 ≤ (t.1 1 (94 + 3 * g)).toInt ∧ (t.1 1 (94 + 3 * g)).toInt ≤ 16) (G : GnR (t.1 1) K) : PQ (f_X12_buy a g h t) (Gq K) := by
  have b0 := B.1.2
  have e0 : (0 : Int32).toInt = 0 := rfl
  have e1 : (1 : Int32).toInt = 1 := rfl
  have e999 : (999 : Int32).toInt = 999 := rfl
  unfold f_X12_buy
  refine pq_if (fun _ => gq_rf G 1) (fun c1 => pq_if (fun _ => gq_rf G 1) (fun c2 => pq_b (from_m g 1 999 t) (fun r5 t6 k => ?_)))
  have c1 := i_nlt c1
  have c2 := i_nle c2
  obtain ⟨et, kg⟩ := k
  subst et
  refine pq_if (fun _ => gq_rf G 1) (fun cg => pq_b (isH_m h t6) (fun r9 t10 k => ?_))
  have y := r1_y kg cg
  obtain ⟨et, k⟩ := k
  subst et
  refine pq_if (fun _ => gq_rf G 1) (fun c => ?_)
  obtain ⟨n, hn, h8⟩ := hs_t b0 (r1_y k c)
  refine pq_b (room_m hn h8 g t10) (fun r13 t14 k => ?_)
  obtain ⟨et, kr⟩ := k
  subst et
  refine pq_if (fun _ => gq_rf G 4) (fun cr => pq_c (fun _ => pq_if (fun _ => pq_b (gone_m hn (by omega) t14) (fun r18 t19 k => ?_)) (fun _ => gq_rf G 6)))
  obtain ⟨et, -⟩ := k
  subst et
  exact pq_if (fun _ => pq_b (gn_buys G ⟨hK.1, by omega⟩ (g := a.toInt.toNat) (by omega) (by omega) hn h8 (n := g) (by omega) (hS _ (by omega)) (r1_y kr cr)) (fun r20 t21 k => gq_gv k _)) (fun _ => gq_rf G 7)
theorem gq_sweep (a : Int32) {t : Sg} {K : Int} (hK : 9999 ≤ K ∧ K ≤ 900000000) (B : BdK t) (G : GnR (t.1 1) K) : PQ (f_X12_sweep a t) (Gq K) := by
  have b0 := B.1.2
  unfold f_X12_sweep
  refine pq_b (wrong_m a b0) (fun r t3 k => ?_)
  obtain ⟨et, k⟩ := k
  subst et
  refine pq_if (fun c => ?_) (fun _ => gq_rf G _)
  obtain ⟨n, hn, h8⟩ := hs_t b0 (wn_hs k (fun z => by rw [z] at c; exact absurd c (by decide)))
  exact pq_b (gn_sweeps G ⟨hK.1, by omega⟩ hn h8) (fun r3 t4 k => gq_gv k.1 _)
theorem gq_shovel (a b g : Int32) {t : Sg} {K : Int} (hK : 9999 ≤ K ∧ K ≤ 900000000) (B : BdK t) (G : GnR (t.1 1) K) : PQ (f_X12_shovel a b g t) (Gq (K + 1000)) := by
  have b0 := B.1.2
  have e1 : (1 : Int32).toInt = 1 := rfl
  have e999 : (999 : Int32).toInt = 999 := rfl
  have up : GnR (t.1 1) (K + 1000) := gn_up G (by omega)
  unfold f_X12_shovel
  refine pq_b (isH_m a t) (fun r1 t2 k => ?_)
  obtain ⟨et, k⟩ := k
  subst et
  refine pq_if (fun _ => gq_rf up 1) (fun c => pq_b (isH_m b t2) (fun r5 t6 l => ?_))
  obtain ⟨et, l⟩ := l
  subst et
  refine pq_if (fun _ => gq_rf up 1) (fun d => ?_)
  obtain ⟨n, hn, h8⟩ := hs_t b0 (r1_y k c)
  obtain ⟨j, hj, j8⟩ := hs_t b0 (r1_y l d)
  refine pq_if (fun _ => gq_rf up 1) (fun _ => pq_b (from_m g 1 999 t6) (fun r11 t12 k => ?_))
  obtain ⟨et, kg⟩ := k
  subst et
  refine pq_if (fun _ => gq_rf up 1) (fun cg => pq_b (grains_m hn h8 t12) (fun r15 t16 k => ?_))
  have y := r1_y kg cg
  obtain ⟨et, -⟩ := k
  subst et
  refine pq_if (fun _ => pq_b (gone_m hn (by omega) t16) (fun r17 t18 k => ?_)) (fun _ => gq_rf up 6)
  obtain ⟨et, -⟩ := k
  subst et
  refine pq_if (fun _ => pq_b (gone_m hj (by omega) t18) (fun r19 t20 k => ?_)) (fun _ => gq_rf up 7)
  obtain ⟨et, -⟩ := k
  subst et
  exact pq_if (fun _ => pq_b (gn_brings G ⟨hK.1, by omega⟩ hn h8 hj j8 (n := g) (by omega)) (fun r21 t22 k => gq_gv (gn_up (gn_of_b G (by omega) k) (by omega)) _)) (fun _ => gq_rf up 7)
theorem gq_rain {t : Sg} {K : Int} (hK : 9999 ≤ K ∧ K ≤ 900000000) (B : BdK t) (h13 : 0 ≤ (t.1 1 13).toInt) (G : GnR (t.1 1) K) : PQ (f_X12_rain t) (Gq K) := by
  unfold f_X12_rain f_X12_rains
  exact pq_b (gn_rains ⟨hK.1, by omega⟩ BIG 0 0 0 t rfl (by decide) G B.1 h13) (fun r t2 k => gq_gv k _)
theorem gq_snow (n : Int32) {t : Sg} {K : Int} (B : BdK t) (G : GnR (t.1 1) K) : PQ (f_X12_snow n t) (Gq K) := by
  have e0 : (0 : Int32).toInt = 0 := rfl
  have e99 : (99 : Int32).toInt = 99 := rfl
  unfold f_X12_snow
  refine pq_b (from_m n 0 99 t) (fun r1 t2 k => ?_)
  obtain ⟨et, k⟩ := k
  subst et
  unfold f_X12_snows
  refine pq_if (fun _ => gq_is G 1) (fun c => ?_)
  have y := r1_y k c
  exact pq_b (gn_snows n (by omega) BIG 0 0 t2 rfl (by decide) G B.1) (fun r t3 k => gq_is k 0)
theorem gq_night {t : Sg} {K : Int} (hK : 9999 ≤ K ∧ K ≤ 900000000) (B : BdK t) (hc : ∀ c : Nat, (c : Int) < (t.1 1 2).toInt → 1 ≤ (t.1 1 (82 + 3 * c)).toInt ∧ (t.1 1 (82 + 3 * c)).toInt ≤ 99) (G : GnR (t.1 1) K) : PQ (f_X12_night t) (Gq (K + 400)) := by
  unfold f_X12_night
  exact pq_if (fun _ => gq_rf (gn_up G (by omega)) 4) (fun _ => pq_b (gn_night hK B hc G) (fun _ t2 k => gq_gv k _))
theorem nightc_r {s t : Sg} (H : NowG 0 s t) (D : DyE s t) : RQ (f_X11_night s) (f_X12_night t) (fun r s' r' t' => AnS r s' r' t' ∧ DyE s' t') := by
  have e1 : (1 : Int32).toInt = 1 := rfl
  have e999 : (999 : Int32).toInt = 999 := rfl
  obtain ⟨d1, d2, d3⟩ := D
  unfold f_X11_night f_X12_night
  rw [d1]
  refine rq_iC (fun c => rq_iM (fun d => ?_) (fun d => ?_)) (fun c => rq_iM (fun d => ?_) (fun d => ?_))
  · rw [d] at c
    exact absurd c (by decide)
  · have c := i_lt c
    have ad : (t.1 1 4 + 1).toInt = (t.1 1 4).toInt + (1 : Int32).toInt := i_addx _ _ (by omega)
    refine rq_b2 (night_r H) (fun _ s2 _ t4 k => ?_)
    obtain ⟨k1, k2, k3, -⟩ := k
    have e : s2.1 26 6 = t4.1 1 4 := by
      rw [k2, k3, d1]
      by_cases z : t.1 1 4 + 1 < 999
      · rw [if_pos z]
      · rw [if_neg z]
        have z := i_nlt z
        exact Int32.toInt_inj.mp (by omega)
    have q : RQ (some (s2.1 26 6, pI s2 0 15 0)) (some (t4.1 1 4, pI t4 0 2 0)) (fun r s' r' t' => AnS r s' r' t' ∧ DyE s' t') := rq_s ⟨⟨e, by rw [q_eq, q_eq], ng_k k1 (fun c hc => pI_o _ _ _ _ _ (by omega)) (fun k _ => q_nc rfl) (q_ne rfl)⟩, by rw [q_nc rfl, q_nc rfl]; exact e, by rw [q_nc rfl, k3]; omega, by rw [q_nc rfl, k3]; omega⟩
    exact q
  · have q : RQ (some ((-1 : Int32), pI s 0 15 4)) (some ((-1 : Int32), pI t 0 2 4)) (fun r s' r' t' => AnS r s' r' t' ∧ DyE s' t') := rq_s ⟨⟨rfl, by rw [q_eq, q_eq], ng_k H (fun c hc => pI_o _ _ _ _ _ (by omega)) (fun k _ => q_nc rfl) (q_ne rfl)⟩, by rw [q_nc rfl, q_nc rfl]; exact d1, by rw [q_nc rfl]; exact d2, by rw [q_nc rfl]; exact d3⟩
    exact q
  · have c := i_nlt c
    have d := i_ne d
    omega
/-! best -/
theorem sub_add (a b : Int32) : (a + b) - b = a := Int32.toInt_inj.mp (by
  have h := i_sub (a + b) b
  have g := i_add a b
  have x := Int32.toInt_lt a
  have y := Int32.le_toInt a
  omega)
theorem rs_f1 {L : Nat} {t0 t t' : Sg} (h : ∀ p, p < 110 → t.1 1 p = t0.1 1 p) (f : Fr cdN L t t') (e1 : L.testBit 1 = false) : ∀ p, p < 110 → t'.1 1 p = t0.1 1 p := fun p hp => (fr_e f 1 p 1 rfl e1).trans (h p hp)
theorem bs_2 {t0 t : Sg} {v : Int32} (h : ∀ p, p < 110 → t.1 1 p = t0.1 1 p) : ∀ p, p < 110 → (pI t 0 2 v).1 1 p = t0.1 1 p := fun p hp => by rw [q_nc rfl]; exact h p hp
def Bs (t0 : Sg) (_ : Int32) (t : Sg) : Prop := ∀ p, p < 110 → t.1 1 p = t0.1 1 p
theorem bs_rf {t0 t : Sg} (h : ∀ p, p < 110 → t.1 1 p = t0.1 1 p) (w : Int32) : PQ (bd (f_X12_refuse w t) (fun r t => some (r, t))) (Bs t0) := by
  have q : PQ (some ((-1 : Int32), pI t 0 2 w)) (Bs t0) := pq_s (bs_2 h)
  exact q
theorem bs_gv {t0 t : Sg} (h : ∀ p, p < 110 → t.1 1 p = t0.1 1 p) (v : Int32) : PQ (bd (f_X12_gives v t) (fun r t => some (r, t))) (Bs t0) := by
  have q : PQ (some (v, pI t 0 2 0)) (Bs t0) := pq_s (bs_2 h)
  exact q
theorem bs_b32 {t0 : Sg} (B : BdK t0) (m : Nat) : ∀ (i : Nat) (v1 v2 v3 v4 v5 : Int32) (t : Sg), v5.toInt = (i : Int) → i ≤ 8 → (∀ p, p < 110 → t.1 1 p = t0.1 1 p) → PQ (f_X12_best_b32 m v1 v2 v3 v4 v5 t) (Bs t0) := by
  induction m with
  | zero => intro i v1 v2 v3 v4 v5 t _ _ _ r t' z; cases z
  | succ m ih =>
    intro i v1 v2 v3 v4 v5 t hv hi K
    have e1 : (1 : Int32).toInt = 1 := rfl
    have b0 : (t.1 1 0).toInt ≤ 8 := by rw [K 0 (by decide)]; exact B.1.2
    unfold f_X12_best_b32 f_X12_orNone
    refine pq_if (fun _ => pq_b (P := Bs t0) (pq_if (fun _ => bs_rf K 6) (fun _ => bs_gv K _)) (fun r t8 g => pq_s g)) (fun c => ?_)
    have c := i_nle c
    have hh : i < 8 := by omega
    have a5 : (v5 + 1).toInt = ((i + 1 : Nat) : Int) := by rw [i_addx _ _ (by omega)]; omega
    refine pq_b (gone_m hv (by omega) t) (fun r9 t10 k => ?_)
    obtain ⟨et, -⟩ := k
    subst et
    refine pq_if (fun _ => pq_b (hr_p v5 t10) (fun r11 t12 k => pq_c (fun _ => pq_n (fun t14 e14 => ?_)))) (fun _ => ih (i + 1) _ _ _ _ (v5 + 1) t10 a5 (by omega) K)
    obtain ⟨et, er⟩ := k
    subst et
    rw [er, (hr_x hv hh).1] at e14
    have K14 : ∀ p, p < 110 → ¬ p = 16 + 3 * i → t14.1 1 p = t0.1 1 p := fun p hp z => by rw [e14, pI_1, if_neg (fun y => z y.2)]; exact K p hp
    have x14 : t14.1 1 (16 + 3 * i) = t0.1 1 (16 + 3 * i) + v1 := by rw [e14, q_eq, K _ (by omega)]
    refine pq_b (ft_X12_setOf 0 t14) (fun r15 t16 f16 => pq_b (ft_X12_bits _ t16) (fun r17 t18 f18 => pq_b (hr_p v5 t18) (fun r19 t20 k => pq_c (fun _ => pq_n (fun t22 e22 => ?_)))))
    obtain ⟨et, er⟩ := k
    have y20 : ∀ p, t20.1 1 p = t14.1 1 p := fun p => by rw [et]; exact (fr_e f18 1 p 1 rfl rfl).trans (fr_e f16 1 p 1 rfl rfl)
    rw [er, (hr_x hv hh).1] at e22
    have K22 : ∀ p, p < 110 → t22.1 1 p = t0.1 1 p := fun p hp => by
      rw [e22, pI_1]
      by_cases z : p = 16 + 3 * i
      · rw [if_pos ⟨rfl, z⟩, y20, x14, sub_add, z]
      · rw [if_neg (fun y => z y.2), y20]
        exact K14 p hp z
    exact pq_if (fun _ => ih (i + 1) _ _ _ _ (v5 + 1) t22 a5 (by omega) K22) (fun _ => ih (i + 1) _ _ _ _ (v5 + 1) t22 a5 (by omega) K22)
theorem bs_best (g : Int32) {t : Sg} (B : BdK t) : PQ (f_X12_best g t) (Bs t) := by
  unfold f_X12_best
  refine pq_b (from_m g 1 999 t) (fun r1 t2 k => ?_)
  obtain ⟨et, -⟩ := k
  subst et
  exact pq_if (fun _ => bs_rf (fun _ _ => rfl) 1) (fun _ => pq_b (ft_X12_setOf 0 t2) (fun r5 t6 f => bs_b32 B BIG 0 _ _ _ _ 0 t6 rfl (by decide) (fun p _ => fr_e f 1 p 1 rfl rfl)))
