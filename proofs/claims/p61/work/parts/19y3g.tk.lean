/-! life: a step of it on both sides; the whole of it -/
theorem rq_cK {α β γ : Type} {c : Prop} [Decidable c] {k : Option (γ × Sg)} {K : γ → Sg → Option (α × Sg)} {oM : Option (β × Sg)} {R : α → Sg → β → Sg → Prop} (h : c → RQ (bd k K) oM R) : RQ (bd (ck c k) K) oM R := by
  unfold ck
  by_cases q : c
  · rw [if_pos q]; exact h q
  · rw [if_neg q]; intro a s b t e; cases e
theorem rq_iK {α β γ : Type} {c : Prop} [Decidable c] {a b : Option (γ × Sg)} {K : γ → Sg → Option (α × Sg)} {oM : Option (β × Sg)} {R : α → Sg → β → Sg → Prop} (h : c → RQ (bd a K) oM R) (g : ¬ c → RQ (bd b K) oM R) : RQ (bd (if c then a else b) K) oM R := by
  by_cases q : c
  · rw [if_pos q]; exact h q
  · rw [if_neg q]; exact g q
theorem rw_nu {b B k : Nat} {s : Sg} {M : Nat → Int32} (R : RwR b B s M k) (h : M (B + 6 * k) = 25) : s.1 (b + 23) k = M (B + 6 * k + 1) := by
  unfold RwR RwA at R
  have no : ∀ {z : Int32}, M (B + 6 * k) = z → ¬ (25 : Int32) = z → False := fun y z => z (h.symm.trans y)
  rcases R with ⟨-, y, -⟩ | ⟨-, y, -⟩ | ⟨-, y, -⟩ | ⟨-, y, -⟩ | ⟨-, y, -⟩ | ⟨-, y⟩ | ⟨-, -, y⟩ | ⟨-, y⟩ | ⟨-, y⟩ | ⟨-, -, ⟨-, y⟩ | ⟨-, y⟩ | ⟨-, -, -, y⟩⟩
  · exact (no y (by decide)).elim
  · exact (no y (by decide)).elim
  · exact (no y (by decide)).elim
  · exact (no y (by decide)).elim
  · exact (no y (by decide)).elim
  · exact (no y (by decide)).elim
  · exact y
  · exact (no y (by decide)).elim
  · exact (no y (by decide)).elim
  · exact (no y (by decide)).elim
  · exact (no y (by decide)).elim
  · exact (no y (by decide)).elim
theorem bs_0 {v : Int32} {n : Nat} {s : Sg} (hv : v.toInt = (n : Int)) (w1 : ¬ s.1 45 n = 124) (w2 : ¬ s.1 45 n = 128) (w3 : ¬ s.1 45 n = 130) : PQ (f_X3_behindStep_25_26_27 v s) (fun r s' => r = v + 1 ∧ s' = s) := by
  unfold f_X3_behindStep_25_26_27
  refine pq_c (fun _ => ?_)
  rw [cl_h hv, if_neg w1, if_neg w2, if_neg w3]
  exact pq_s ⟨rfl, rfl⟩
theorem bs_l {v : Int32} {n : Nat} {s : Sg} (hv : v.toInt = (n : Int)) (w : s.1 45 n = 128) : PQ (f_X3_behindStep_25_26_27 v s) (fun r s' => r = v + 1 ∧ s' = pI s 18 n (s.1 47 n)) := by
  unfold f_X3_behindStep_25_26_27
  refine pq_c (fun _ => ?_)
  rw [cl_h hv, if_neg (by rw [w]; decide), if_pos w]
  exact pq_n (fun s4 e4 => pq_s ⟨rfl, e4⟩)
theorem bs_s {v : Int32} {n : Nat} {s : Sg} (hv : v.toInt = (n : Int)) (w : s.1 45 n = 130) : PQ (f_X3_behindStep_25_26_27 v s) (fun r s' => r = s.1 27 7 ∧ s' = s) := by
  unfold f_X3_behindStep_25_26_27
  refine pq_c (fun _ => ?_)
  rw [cl_h hv, if_neg (by rw [w]; decide), if_neg (by rw [w]; decide), if_pos w]
  exact pq_s ⟨rfl, rfl⟩
theorem act_st {v : Int32} {n : Nat} {s : Sg} (hv : v.toInt = (n : Int)) (w : s.1 45 n = 130) : PQ (f_X3_act_25_26_27 v s) (fun _ s' => s' = s) := by
  unfold f_X3_act_25_26_27
  refine pq_c (fun _ => ?_)
  rw [cl_h hv, w]
  rw [if_neg (show ¬ (130 : Int32) = 116 by decide), if_neg (show ¬ (130 : Int32) = 117 by decide), if_neg (show ¬ (130 : Int32) = 118 by decide), if_neg (show ¬ (130 : Int32) = 119 by decide), if_neg (show ¬ (130 : Int32) = 120 by decide), if_neg (show ¬ (130 : Int32) = 121 by decide), if_neg (show ¬ (130 : Int32) = 122 by decide), if_neg (show ¬ (130 : Int32) = 123 by decide)]
  exact pq_s rfl
/-- the run is cut short -/
theorem lfb_x {X : Nat} {K : Int} {s t : Sg} (h : LfB X K s t) : LfB X K (pI s 4 8 1) (pI t 11 4 1) := by
  obtain ⟨⟨⟨h1, h2⟩, ⟨t1, t2, t3, t4, t5, t6⟩, h4, h5, h6⟩, h7, h8⟩ := h
  have q1 : (pI t 11 4 1).1 1 = t.1 1 := pI_o _ _ _ _ _ (by decide)
  have q0 : (pI t 11 4 1).1 0 = t.1 0 := pI_o _ _ _ _ _ (by decide)
  refine ⟨⟨⟨ng_k h1 (fun c hc => pI_o _ _ _ _ _ (by omega)) (fun k _ => by rw [q1]) (by rw [q0]), dye_k h2 (q_nc rfl) (by rw [q1])⟩, ⟨?_, ?_, ?_, ?_, ?_, ?_⟩, ?_⟩, ?_, ?_⟩
  · rw [q_ne rfl, q0]; exact t1
  · rw [q_ne rfl, q0]; exact t2
  · rw [q_ne rfl, q_ne rfl]; exact t3
  · rw [q_ne rfl, q_ne rfl]; exact t4
  · rw [q_ne rfl, q_ne rfl]; exact t5
  · rw [q_ne rfl, q_ne rfl]; exact t6
  · rw [q0, q1]; exact ⟨h4, h5, h6⟩
  · rw [q1]
    exact pgx_k h7 (fun c hc => pI_o _ _ _ _ _ (by omega)) (fun p _ => rfl)
  · rw [q_eq, q_eq, q_ne rfl]
    exact ⟨rfl, h8.2⟩
/-- a step is counted -/
theorem lfb_s {X : Nat} {K : Int} {s t : Sg} (h : LfB X K s t) (lt : (t.1 0 30).toInt < 300) : LfB X K (pI s 4 3 (s.1 4 3 + 1)) (pI t 0 30 (t.1 0 30 + 1)) ∧ ((pI t 0 30 (t.1 0 30 + 1)).1 0 30).toInt = (t.1 0 30).toInt + 1 := by
  obtain ⟨⟨⟨h1, h2⟩, ⟨t1, t2, t3, t4, t5, t6⟩, h4, h5, h6⟩, h7, h8⟩ := h
  have e1 : (1 : Int32).toInt = 1 := rfl
  have ad : (t.1 0 30 + 1).toInt = (t.1 0 30).toInt + (1 : Int32).toInt := i_addx _ _ (by omega)
  have q1 : ∀ x, (pI t 0 30 x).1 1 = t.1 1 := fun x => pI_o _ _ _ _ _ (by decide)
  have q11 : ∀ x, (pI t 0 30 x).1 11 = t.1 11 := fun x => pI_o _ _ _ _ _ (by decide)
  refine ⟨⟨⟨⟨ng_k h1 (fun c hc => pI_o _ _ _ _ _ (by omega)) (fun k _ => by rw [q1]) (q_ne rfl), dye_k h2 (q_nc rfl) (by rw [q1])⟩, ⟨?_, ?_, ?_, ?_, ?_, ?_⟩, ?_⟩, ?_, ?_⟩, by rw [q_eq, ad, e1]⟩
  · rw [q_ne rfl, q_ne rfl]; exact t1
  · rw [q_eq, q_eq, t2]
  · rw [q_ne rfl, q11]; exact t3
  · rw [q_ne rfl, q11]; exact t4
  · rw [q_ne rfl, q11]; exact t5
  · rw [q_ne rfl, q11]; exact t6
  · rw [q_eq, q1]
    exact ⟨gn_up h4 (by omega), by omega, by omega⟩
  · rw [q1]
    exact pgx_k h7 (fun c hc => pI_o _ _ _ _ _ (by omega)) (fun p _ => rfl)
  · rw [q_ne rfl, q11, q_ne rfl]; exact h8
theorem bst {X : Nat} {K : Int} {m m2 n : Nat} {v v6 : Int32} {s t : Sg} (hv : v.toInt = (n : Int)) (nX : n < X) (B : LfB X K s t) (T : TnR 18 X n s t) (n27 : ¬ t.1 1 (110 + 6 * n) = 27) (E : HdE X K m) (a0 : 0 ≤ v6.toInt) (a1 : v6.toInt + 160 ≤ 161 * (t.1 0 30).toInt) : RQ (bd (f_X3_behindStep_25_26_27 v s) (fun r8 s9 => f_X3_run_25_26_27_b12 m r8 v6 s9)) (if (t.1 1 ((110 + 6 * v).toNatClampNeg)) = 25 then ck (inr ((110 + 6 * v) + 1) 2880) (ck (inr v 80) (nmx (pI t 10 v.toNatClampNeg ((t.1 1 (((110 + 6 * v) + 1).toNatClampNeg)) - 1)) (fun s9 => f_X12_lives_b140 (f_X12_lives_b32 m2) v (110 + 6 * v) s9))) else f_X12_lives_b140 (f_X12_lives_b32 m2) v (110 + 6 * v) t) (fun _ s' _ t' => LfB X K s' t') := by
  have P := B.2.1
  have hX := P.1
  have R := P.2.1 n nX
  have kd : (s.1 45 n = 129 ↔ t.1 1 (110 + 6 * n) = 26) ∧ (s.1 45 n = 128 ↔ t.1 1 (110 + 6 * n) = 25) ∧ (s.1 45 n = 130 ↔ t.1 1 (110 + 6 * n) = 27) ∧ (s.1 45 n = 124 ↔ ¬ t.1 1 (110 + 6 * n) < 2400) := rw_kd R.1.1
  have ix := rw_x hv (by omega)
  have e1 : (1 : Int32).toInt = 1 := rfl
  have av : (v + 1).toInt = v.toInt + (1 : Int32).toInt := i_addx _ _ (by omega)
  have cont : ∀ (n' : Nat) (w : Int32) (s' t' : Sg), w.toInt = (n' : Int) → n' ≤ X → LfB X K s' t' → TnR 18 X n' s' t' → t'.1 0 30 = t.1 0 30 → RQ (f_X3_run_25_26_27_b12 m w v6 s') (bd (f_X12_behindEnds w t') (fun r t => f_X12_lives_b32 m2 r t)) (fun _ s' _ t' => LfB X K s' t') := fun n' w s' t' g1 g2 g3 g4 g5 => E BIG m2 n' w v6 s' t' g1 g2 g3 g4 (gd_new g3.2.1 g4 a0 (by rw [g5]; exact a1))
  rw [ix.2.1]
  by_cases b25 : t.1 1 (110 + 6 * n) = 25
  · rw [if_pos b25]
    refine rq_bC (bs_l hv (kd.2.1.mpr b25)) (fun r8 s9 k => rq_cM (fun _ => rq_cM (fun _ => rq_nM (fun t9 e9 => ?_))))
    rw [ix.2.2.1, cl_h hv] at e9
    obtain ⟨k1, k2⟩ := k
    have nu : s.1 47 n = t.1 1 (110 + 6 * n + 1) := rw_nu R.1.1 b25
    rw [nu] at k2
    rw [k1, k2, e9]
    unfold f_X12_lives_b140
    refine rq_cM (fun _ => ?_)
    rw [ix.2.1, if_pos (by rw [q_nc rfl, b25]; decide)]
    exact cont (n + 1) (v + 1) _ _ (by omega) (by omega) (lfb_k B (fun c hc => pI_o _ _ _ _ _ hc) (fun c hc => pI_o _ _ _ _ _ hc)) (tn_l T (R.1.2.2.2.2.1 b25)) (q_nc rfl)
  · rw [if_neg b25]
    unfold f_X12_lives_b140
    refine rq_cM (fun _ => ?_)
    rw [ix.2.1]
    by_cases lt : t.1 1 (110 + 6 * n) < 2400
    · rw [if_pos lt]
      refine rq_bC (bs_0 hv (fun z => kd.2.2.2.mp z lt) (fun z => b25 (kd.2.1.mp z)) (fun z => n27 (kd.2.2.1.mp z))) (fun r8 s9 k => ?_)
      obtain ⟨k1, k2⟩ := k
      rw [k1, k2]
      exact cont (n + 1) (v + 1) _ _ (by omega) (by omega) B (tn_f T b25) rfl
    · rw [if_neg lt]
      have w := kd.2.2.2.mpr lt
      have bk := blk_of R.1.1 lt
      obtain ⟨e, ⟨n1, n2⟩, n3, n4, -⟩ := pg_blk P nX bk
      have c50 := R.2 (Or.inl w)
      unfold f_X3_behindStep_25_26_27
      refine rq_cK (fun _ => ?_)
      rw [cl_h hv, if_pos w, bd_bd]
      refine rq_b2 (holds_r B.1.1.1 (by omega) v (110 + 6 * v) hv ix.1 R.1.1 R.1.2 w) (fun r2 s3 r13 t14 k => ?_)
      obtain ⟨k1, k2, k3⟩ := k
      rw [k1, k2, k3]
      refine rq_iK (fun c => rq_iM (fun _ => rq_cM (fun _ => ?_)) (fun d => absurd c d)) (fun c => rq_iM (fun d => absurd d c) (fun _ => ?_))
      · rw [ix.2.2.2, c50]
        exact cont (e + 1) (t.1 1 (110 + 6 * n + 4) + 1) _ _ (by rw [i_addx _ _ (by omega)]; omega) (by omega) B (tn_j P T bk b25 n3 n1 n4) rfl
      · exact cont (n + 1) (v + 1) _ _ (by omega) (by omega) B (tn_f T b25) rfl
theorem hd_l {X : Nat} {K : Int} {m : Nat} (hK : 9999 ≤ K ∧ K + 200000 ≤ 900000000) (E : HdE X K m) : HdL X K (m + 1) := fun m2 n v v6 s t hv hn B T ne a0 a1 => by
  cases m2 with
  | zero => intro a s' b t' _ e; cases e
  | succ m2 =>
  have P := B.2.1
  have hX := P.1
  have st := B.1.2.2.2
  have e1 : (1 : Int32).toInt = 1 := rfl
  have e300 : (300 : Int32).toInt = 300 := rfl
  have tl3 : s.1 4 3 = t.1 0 30 := B.1.2.1.2.1
  have a6 : (v6 + 1).toInt = v6.toInt + (1 : Int32).toInt := i_addx _ _ (by omega)
  unfold f_X3_run_25_26_27_b12 f_X12_lives_b32
  rw [hX.2.1]
  refine rq_iC (fun c => ?_) (fun _ => rq_iC (fun c => rq_iM (fun _ => rq_s B) (fun d => absurd c d)) (fun c => rq_iM (fun d => absurd d c) (fun _ => rq_cC (fun _ => ?_))))
  · exfalso
    have c := i_le c
    have e : (1000000 : Int32).toInt = 1000000 := rfl
    omega
  have nX : n < X := by
    have c := i_nle c
    omega
  have R := P.2.1 n nX
  have kd : (s.1 45 n = 129 ↔ t.1 1 (110 + 6 * n) = 26) ∧ (s.1 45 n = 128 ↔ t.1 1 (110 + 6 * n) = 25) ∧ (s.1 45 n = 130 ↔ t.1 1 (110 + 6 * n) = 27) ∧ (s.1 45 n = 124 ↔ ¬ t.1 1 (110 + 6 * n) < 2400) := rw_kd R.1.1
  have n26 := ne nX
  have ix := rw_x hv (by omega)
  rw [cl_h hv, if_neg (fun z => n26 (kd.1.mp z))]
  refine rq_iC (fun c => rq_iM (fun d => ?_) (fun d => ?_)) (fun c => rq_iM (fun d => ?_) (fun d => ?_))
  · exfalso
    rw [tl3, d] at c
    exact absurd c (by decide)
  · have d := i_ne d
    obtain ⟨B1, st1⟩ := lfb_s B (by omega)
    have T1 : TnR 18 X n (pI s 4 3 (s.1 4 3 + 1)) (pI t 0 30 (t.1 0 30 + 1)) := tn_c T (pI_o _ _ _ _ _ (by decide)) (pI_o _ _ _ _ _ (by decide)) (fun p _ => q_nc rfl)
    have G1 : GnR ((pI t 0 30 (t.1 0 30 + 1)).1 1) (K + 400 * (t.1 0 30).toInt) := B.1.2.2.1
    have m1 : (pI t 0 30 (t.1 0 30 + 1)).1 1 = t.1 1 := pI_o _ _ _ _ _ (by decide)
    have c45 : (pI s 4 3 (s.1 4 3 + 1)).1 45 = s.1 45 := pI_o _ _ _ _ _ (by decide)
    have c27 : (pI s 4 3 (s.1 4 3 + 1)).1 27 = s.1 27 := pI_o _ _ _ _ _ (by decide)
    refine rq_cM (fun _ => ?_)
    generalize pI s 4 3 (s.1 4 3 + 1) = s1 at B1 T1 c45 c27 ⊢
    generalize pI t 0 30 (t.1 0 30 + 1) = t1 at B1 st1 T1 G1 m1 ⊢
    rw [ix.2.1, show t1.1 1 (110 + 6 * n) = t.1 1 (110 + 6 * n) by rw [m1]]
    by_cases s27 : t.1 1 (110 + 6 * n) = 27
    · rw [if_pos s27]
      have w : s1.1 45 n = 130 := by rw [c45]; exact kd.2.2.1.mpr s27
      refine rq_pp (P := fun _ s' => s' = s1) (Q := fun _ t' => t' = t1) (pq_b (act_st hv w) (fun _ s7 k => pq_b (bs_s hv (by rw [k]; exact w)) (fun r8 s9 k2 => ?_))) (pq_s rfl) (fun _ s' _ t' k1 k2 => ?_)
      · rw [k2.2, k2.1, k]
        exact run_e (Int32.le_iff_toInt_le.mpr (by omega)) m
      · rw [k1, k2]
        exact B1
    · rw [if_neg s27]
      have P1 := B1.2.1
      have R1 := P1.2.1 n nX
      have A := rq_a (act_r B1.1.1.1 B1.1.2.1 B1.1.1.2 (K := K + 400 * (t.1 0 30).toInt) (by omega) G1 (show n < 60 by omega) v (110 + 6 * v) hv ix.1 R1.1.1 R1.1.2 (by rw [m1]; exact n26) (by rw [m1]; exact s27)) (fy_X3_act_25_26_27 v s1) (fq_X12_does (110 + 6 * v) t1)
      refine rq_b2 A (fun _ s7 r2 t3 k => ?_)
      obtain ⟨⟨⟨⟨k1, k2, k3⟩, k4⟩, k5⟩, k6, k7⟩ := k
      have M3 : ∀ p, (110 ≤ p ∨ PlP p ∨ p = 11) → t3.1 1 p = t1.1 1 p := k4.1
      have z30 : t3.1 0 30 = t1.1 0 30 := k4.2.2.1 30 (by decide) (by decide) (by decide)
      have c18 : s7.1 18 = s1.1 18 := funext fun j => fr_e k6 18 j 18 rfl rfl
      have cC : ∀ c, c = 27 ∨ (45 ≤ c ∧ c ≤ 50) → s7.1 c = s1.1 c := fun c hc => funext fun j => by
        rcases (show c = 27 ∨ c = 45 ∨ c = 46 ∨ c = 47 ∨ c = 48 ∨ c = 49 ∨ c = 50 by omega) with z | z | z | z | z | z | z <;> subst z
        · exact fr_e k6 27 j 27 rfl rfl
        · exact fr_e k6 45 j 45 rfl rfl
        · exact fr_e k6 46 j 46 rfl rfl
        · exact fr_e k6 47 j 47 rfl rfl
        · exact fr_e k6 48 j 48 rfl rfl
        · exact fr_e k6 49 j 49 rfl rfl
        · exact fr_e k6 50 j 50 rfl rfl
      have c48 : s7.1 4 8 = s1.1 4 8 := fr_e k6 4 8 268 rfl rfl
      have q11 : t3.1 11 0 = t1.1 11 0 := fr_e k7 11 0 300 rfl rfl
      have q14 : t3.1 11 4 = t1.1 11 4 := fr_e k7 11 4 304 rfl rfl
      have go : ∀ d : Int32, TlR d s7 t3 → RQ (bd (f_X3_behindStep_25_26_27 v s7) (fun r8 s9 => f_X3_run_25_26_27_b12 m r8 (v6 + 1) s9)) (f_X12_lives_b111 (f_X12_lives_b32 m2) v (110 + 6 * v) d (t1.1 11 0) 0 t3) (fun _ s' _ t' => LfB X K s' t') := fun d Td => by
        obtain ⟨u1, u2, u3, u4, u5, u6⟩ := Td
        unfold f_X12_lives_b111
        refine rq_cM (fun _ => rq_nM (fun s5 e5 => rq_cM (fun _ => ?_)))
        have e5' : s5 = pI t3 11 0 (s7.1 4 4) := by
          rw [e5, ← q11, u3]
          rfl
        have x1 : s5.1 1 = t3.1 1 := by rw [e5']; exact pI_o _ _ _ _ _ (by decide)
        have x0 : s5.1 0 = t3.1 0 := by rw [e5']; exact pI_o _ _ _ _ _ (by decide)
        have x10 : s5.1 10 = t3.1 10 := by rw [e5']; exact pI_o _ _ _ _ _ (by decide)
        have y : ∀ j, ¬ j = 0 → s5.1 11 j = t3.1 11 j := fun j hj => by rw [e5', pI_1, if_neg (fun z => hj z.2)]
        have y0 : s5.1 11 0 = s7.1 4 4 := by rw [e5', q_eq]
        have B5 : LfB X K s7 s5 := by
          refine ⟨⟨⟨ng_k k1 (fun _ _ => rfl) (fun k _ => by rw [x1]) (by rw [x0]), dye_k k2 rfl (by rw [x1])⟩, ⟨?_, ?_, ?_, ?_, ?_, ?_⟩, ?_⟩, ?_, ?_⟩
          · rw [x0]; exact u1
          · rw [x0]; exact u2
          · rw [y0, add0]
          · rw [y 1 (by decide)]; exact u4
          · rw [y 2 (by decide)]; exact u5
          · rw [y 3 (by decide)]; exact u6
          · rw [x1, x0, z30]
            exact ⟨gn_up k3 (by omega), by omega, by omega⟩
          · rw [x1]
            exact pgx_k P1 cC M3
          · rw [y 4 (by decide), c48, q14, show s7.1 4 1 = s1.1 4 1 from fr_e k6 4 1 261 rfl rfl]
            exact B1.2.2
        have T5 : TnR 18 X n s7 s5 := tn_c T1 c18 (x10.trans (k4.2.1 10 (by decide) (by decide) (by decide))) (fun p hp => by rw [x1]; exact M3 p (Or.inl hp))
        exact bst hv nX B5 T5 (by rw [x1, M3 _ (Or.inl (by omega)), m1]; exact s27) E (by omega) (by rw [x0, z30]; omega)
      rcases k5 with ⟨e, Td⟩ | ⟨e, Td⟩
      · rw [e, if_neg (show ¬ (1 : Int32) = 0 by decide)]
        exact go 0 Td
      · rw [e, if_pos (show (0 : Int32) = 0 from rfl)]
        exact go 1 Td
  · exact rq_s (lfb_x B)
  · exfalso
    have c := i_nlt c
    have d := i_ne d
    rw [tl3] at c
    omega
theorem lf_all {X : Nat} {K : Int} (hK : 9999 ≤ K ∧ K + 200000 ≤ 900000000) (m : Nat) : HdL X K m ∧ HdE X K m := by
  induction m with
  | zero =>
    constructor
    · intro m2 n v v6 s t _ _ _ _ _ _ _ a s' b t' e
      cases e
    · intro m1 m2 n v v6 s t _ _ _ _ _ a s' b t' e
      cases e
  | succ m ih =>
    have L := hd_l hK ih.2
    exact ⟨L, hd_e ih.2 L⟩
theorem bs_0z {v : Int32} {n : Nat} {s : Sg} (hv : v.toInt = (n : Int)) (w1 : ¬ s.1 45 n = 124) (w2 : ¬ s.1 45 n = 128) (w3 : ¬ s.1 45 n = 130) : PQ (f_X3_behindStep_25_53_27_5 v s) (fun r s' => r = v + 1 ∧ s' = s) := by
  unfold f_X3_behindStep_25_53_27_5
  refine pq_c (fun _ => ?_)
  rw [cl_h hv, if_neg w1, if_neg w2, if_neg w3]
  exact pq_s ⟨rfl, rfl⟩
theorem bs_lz {v : Int32} {n : Nat} {s : Sg} (hv : v.toInt = (n : Int)) (w : s.1 45 n = 128) : PQ (f_X3_behindStep_25_53_27_5 v s) (fun r s' => r = v + 1 ∧ s' = pI s 19 n (s.1 47 n)) := by
  unfold f_X3_behindStep_25_53_27_5
  refine pq_c (fun _ => ?_)
  rw [cl_h hv, if_neg (by rw [w]; decide), if_pos w]
  exact pq_n (fun s4 e4 => pq_s ⟨rfl, e4⟩)
theorem bs_sz {v : Int32} {n : Nat} {s : Sg} (hv : v.toInt = (n : Int)) (w : s.1 45 n = 130) : PQ (f_X3_behindStep_25_53_27_5 v s) (fun r s' => r = s.1 27 7 ∧ s' = s) := by
  unfold f_X3_behindStep_25_53_27_5
  refine pq_c (fun _ => ?_)
  rw [cl_h hv, if_neg (by rw [w]; decide), if_neg (by rw [w]; decide), if_pos w]
  exact pq_s ⟨rfl, rfl⟩
theorem act_stz {v : Int32} {n : Nat} {s : Sg} (hv : v.toInt = (n : Int)) (w : s.1 45 n = 130) : PQ (f_X3_act_25_53_27_5 v s) (fun _ s' => s' = s) := by
  unfold f_X3_act_25_53_27_5
  refine pq_c (fun _ => ?_)
  rw [cl_h hv, w]
  rw [if_neg (show ¬ (130 : Int32) = 116 by decide), if_neg (show ¬ (130 : Int32) = 117 by decide), if_neg (show ¬ (130 : Int32) = 118 by decide), if_neg (show ¬ (130 : Int32) = 119 by decide), if_neg (show ¬ (130 : Int32) = 120 by decide), if_neg (show ¬ (130 : Int32) = 121 by decide), if_neg (show ¬ (130 : Int32) = 122 by decide), if_neg (show ¬ (130 : Int32) = 123 by decide)]
  exact pq_s rfl
/-- the run is cut short -/
theorem lfb_xz {X : Nat} {K : Int} {s t : Sg} (h : LfBz X K s t) : LfBz X K (pI s 5 8 1) (pI t 11 4 1) := by
  obtain ⟨⟨⟨h1, h2⟩, ⟨t1, t2, t3, t4, t5, t6⟩, h4, h5, h6⟩, h7, h8⟩ := h
  have q1 : (pI t 11 4 1).1 1 = t.1 1 := pI_o _ _ _ _ _ (by decide)
  have q0 : (pI t 11 4 1).1 0 = t.1 0 := pI_o _ _ _ _ _ (by decide)
  refine ⟨⟨⟨ng_k h1 (fun c hc => pI_o _ _ _ _ _ (by omega)) (fun k _ => by rw [q1]) (by rw [q0]), dye_kz h2 (q_nc rfl) (by rw [q1])⟩, ⟨?_, ?_, ?_, ?_, ?_, ?_⟩, ?_⟩, ?_, ?_⟩
  · rw [q_ne rfl, q0]; exact t1
  · rw [q_ne rfl, q0]; exact t2
  · rw [q_ne rfl, q_ne rfl]; exact t3
  · rw [q_ne rfl, q_ne rfl]; exact t4
  · rw [q_ne rfl, q_ne rfl]; exact t5
  · rw [q_ne rfl, q_ne rfl]; exact t6
  · rw [q0, q1]; exact ⟨h4, h5, h6⟩
  · rw [q1]
    exact pgx_k h7 (fun c hc => pI_o _ _ _ _ _ (by omega)) (fun p _ => rfl)
  · rw [q_eq, q_eq, q_ne rfl]
    exact ⟨rfl, h8.2⟩
/-- a step is counted -/
theorem lfb_sz {X : Nat} {K : Int} {s t : Sg} (h : LfBz X K s t) (lt : (t.1 0 30).toInt < 300) : LfBz X K (pI s 5 3 (s.1 5 3 + 1)) (pI t 0 30 (t.1 0 30 + 1)) ∧ ((pI t 0 30 (t.1 0 30 + 1)).1 0 30).toInt = (t.1 0 30).toInt + 1 := by
  obtain ⟨⟨⟨h1, h2⟩, ⟨t1, t2, t3, t4, t5, t6⟩, h4, h5, h6⟩, h7, h8⟩ := h
  have e1 : (1 : Int32).toInt = 1 := rfl
  have ad : (t.1 0 30 + 1).toInt = (t.1 0 30).toInt + (1 : Int32).toInt := i_addx _ _ (by omega)
  have q1 : ∀ x, (pI t 0 30 x).1 1 = t.1 1 := fun x => pI_o _ _ _ _ _ (by decide)
  have q11 : ∀ x, (pI t 0 30 x).1 11 = t.1 11 := fun x => pI_o _ _ _ _ _ (by decide)
  refine ⟨⟨⟨⟨ng_k h1 (fun c hc => pI_o _ _ _ _ _ (by omega)) (fun k _ => by rw [q1]) (q_ne rfl), dye_kz h2 (q_nc rfl) (by rw [q1])⟩, ⟨?_, ?_, ?_, ?_, ?_, ?_⟩, ?_⟩, ?_, ?_⟩, by rw [q_eq, ad, e1]⟩
  · rw [q_ne rfl, q_ne rfl]; exact t1
  · rw [q_eq, q_eq, t2]
  · rw [q_ne rfl, q11]; exact t3
  · rw [q_ne rfl, q11]; exact t4
  · rw [q_ne rfl, q11]; exact t5
  · rw [q_ne rfl, q11]; exact t6
  · rw [q_eq, q1]
    exact ⟨gn_up h4 (by omega), by omega, by omega⟩
  · rw [q1]
    exact pgx_k h7 (fun c hc => pI_o _ _ _ _ _ (by omega)) (fun p _ => rfl)
  · rw [q_ne rfl, q11, q_ne rfl]; exact h8
theorem bstz {X : Nat} {K : Int} {m m2 n : Nat} {v v6 : Int32} {s t : Sg} (hv : v.toInt = (n : Int)) (nX : n < X) (B : LfBz X K s t) (T : TnR 19 X n s t) (n27 : ¬ t.1 1 (110 + 6 * n) = 27) (E : HdEz X K m) (a0 : 0 ≤ v6.toInt) (a1 : v6.toInt + 160 ≤ 161 * (t.1 0 30).toInt) : RQ (bd (f_X3_behindStep_25_53_27_5 v s) (fun r8 s9 => f_X3_run_25_53_27_5_b12 m r8 v6 s9)) (if (t.1 1 ((110 + 6 * v).toNatClampNeg)) = 25 then ck (inr ((110 + 6 * v) + 1) 2880) (ck (inr v 80) (nmx (pI t 10 v.toNatClampNeg ((t.1 1 (((110 + 6 * v) + 1).toNatClampNeg)) - 1)) (fun s9 => f_X12_lives_b140 (f_X12_lives_b32 m2) v (110 + 6 * v) s9))) else f_X12_lives_b140 (f_X12_lives_b32 m2) v (110 + 6 * v) t) (fun _ s' _ t' => LfBz X K s' t') := by
  have P := B.2.1
  have hX := P.1
  have R := P.2.1 n nX
  have kd : (s.1 45 n = 129 ↔ t.1 1 (110 + 6 * n) = 26) ∧ (s.1 45 n = 128 ↔ t.1 1 (110 + 6 * n) = 25) ∧ (s.1 45 n = 130 ↔ t.1 1 (110 + 6 * n) = 27) ∧ (s.1 45 n = 124 ↔ ¬ t.1 1 (110 + 6 * n) < 2400) := rw_kd R.1.1
  have ix := rw_x hv (by omega)
  have e1 : (1 : Int32).toInt = 1 := rfl
  have av : (v + 1).toInt = v.toInt + (1 : Int32).toInt := i_addx _ _ (by omega)
  have cont : ∀ (n' : Nat) (w : Int32) (s' t' : Sg), w.toInt = (n' : Int) → n' ≤ X → LfBz X K s' t' → TnR 19 X n' s' t' → t'.1 0 30 = t.1 0 30 → RQ (f_X3_run_25_53_27_5_b12 m w v6 s') (bd (f_X12_behindEnds w t') (fun r t => f_X12_lives_b32 m2 r t)) (fun _ s' _ t' => LfBz X K s' t') := fun n' w s' t' g1 g2 g3 g4 g5 => E BIG m2 n' w v6 s' t' g1 g2 g3 g4 (gd_new g3.2.1 g4 a0 (by rw [g5]; exact a1))
  rw [ix.2.1]
  by_cases b25 : t.1 1 (110 + 6 * n) = 25
  · rw [if_pos b25]
    refine rq_bC (bs_lz hv (kd.2.1.mpr b25)) (fun r8 s9 k => rq_cM (fun _ => rq_cM (fun _ => rq_nM (fun t9 e9 => ?_))))
    rw [ix.2.2.1, cl_h hv] at e9
    obtain ⟨k1, k2⟩ := k
    have nu : s.1 47 n = t.1 1 (110 + 6 * n + 1) := rw_nu R.1.1 b25
    rw [nu] at k2
    rw [k1, k2, e9]
    unfold f_X12_lives_b140
    refine rq_cM (fun _ => ?_)
    rw [ix.2.1, if_pos (by rw [q_nc rfl, b25]; decide)]
    exact cont (n + 1) (v + 1) _ _ (by omega) (by omega) (lfb_kz B (fun c hc => pI_o _ _ _ _ _ hc) (fun c hc => pI_o _ _ _ _ _ hc)) (tn_l T (R.1.2.2.2.2.1 b25)) (q_nc rfl)
  · rw [if_neg b25]
    unfold f_X12_lives_b140
    refine rq_cM (fun _ => ?_)
    rw [ix.2.1]
    by_cases lt : t.1 1 (110 + 6 * n) < 2400
    · rw [if_pos lt]
      refine rq_bC (bs_0z hv (fun z => kd.2.2.2.mp z lt) (fun z => b25 (kd.2.1.mp z)) (fun z => n27 (kd.2.2.1.mp z))) (fun r8 s9 k => ?_)
      obtain ⟨k1, k2⟩ := k
      rw [k1, k2]
      exact cont (n + 1) (v + 1) _ _ (by omega) (by omega) B (tn_f T b25) rfl
    · rw [if_neg lt]
      have w := kd.2.2.2.mpr lt
      have bk := blk_of R.1.1 lt
      obtain ⟨e, ⟨n1, n2⟩, n3, n4, -⟩ := pg_blk P nX bk
      have c50 := R.2 (Or.inl w)
      unfold f_X3_behindStep_25_53_27_5
      refine rq_cK (fun _ => ?_)
      rw [cl_h hv, if_pos w, bd_bd]
      refine rq_b2 (holds_rz B.1.1.1 (by omega) v (110 + 6 * v) hv ix.1 R.1.1 R.1.2 w) (fun r2 s3 r13 t14 k => ?_)
      obtain ⟨k1, k2, k3⟩ := k
      rw [k1, k2, k3]
      refine rq_iK (fun c => rq_iM (fun _ => rq_cM (fun _ => ?_)) (fun d => absurd c d)) (fun c => rq_iM (fun d => absurd d c) (fun _ => ?_))
      · rw [ix.2.2.2, c50]
        exact cont (e + 1) (t.1 1 (110 + 6 * n + 4) + 1) _ _ (by rw [i_addx _ _ (by omega)]; omega) (by omega) B (tn_j P T bk b25 n3 n1 n4) rfl
      · exact cont (n + 1) (v + 1) _ _ (by omega) (by omega) B (tn_f T b25) rfl
theorem hd_lz {X : Nat} {K : Int} {m : Nat} (hK : 9999 ≤ K ∧ K + 200000 ≤ 900000000) (E : HdEz X K m) : HdLz X K (m + 1) := fun m2 n v v6 s t hv hn B T ne a0 a1 => by
  cases m2 with
  | zero => intro a s' b t' _ e; cases e
  | succ m2 =>
  have P := B.2.1
  have hX := P.1
  have st := B.1.2.2.2
  have e1 : (1 : Int32).toInt = 1 := rfl
  have e300 : (300 : Int32).toInt = 300 := rfl
  have tl3 : s.1 5 3 = t.1 0 30 := B.1.2.1.2.1
  have a6 : (v6 + 1).toInt = v6.toInt + (1 : Int32).toInt := i_addx _ _ (by omega)
  unfold f_X3_run_25_53_27_5_b12 f_X12_lives_b32
  rw [hX.2.1]
  refine rq_iC (fun c => ?_) (fun _ => rq_iC (fun c => rq_iM (fun _ => rq_s B) (fun d => absurd c d)) (fun c => rq_iM (fun d => absurd d c) (fun _ => rq_cC (fun _ => ?_))))
  · exfalso
    have c := i_le c
    have e : (1000000 : Int32).toInt = 1000000 := rfl
    omega
  have nX : n < X := by
    have c := i_nle c
    omega
  have R := P.2.1 n nX
  have kd : (s.1 45 n = 129 ↔ t.1 1 (110 + 6 * n) = 26) ∧ (s.1 45 n = 128 ↔ t.1 1 (110 + 6 * n) = 25) ∧ (s.1 45 n = 130 ↔ t.1 1 (110 + 6 * n) = 27) ∧ (s.1 45 n = 124 ↔ ¬ t.1 1 (110 + 6 * n) < 2400) := rw_kd R.1.1
  have n26 := ne nX
  have ix := rw_x hv (by omega)
  rw [cl_h hv, if_neg (fun z => n26 (kd.1.mp z))]
  refine rq_iC (fun c => rq_iM (fun d => ?_) (fun d => ?_)) (fun c => rq_iM (fun d => ?_) (fun d => ?_))
  · exfalso
    rw [tl3, d] at c
    exact absurd c (by decide)
  · have d := i_ne d
    obtain ⟨B1, st1⟩ := lfb_sz B (by omega)
    have T1 : TnR 19 X n (pI s 5 3 (s.1 5 3 + 1)) (pI t 0 30 (t.1 0 30 + 1)) := tn_c T (pI_o _ _ _ _ _ (by decide)) (pI_o _ _ _ _ _ (by decide)) (fun p _ => q_nc rfl)
    have G1 : GnR ((pI t 0 30 (t.1 0 30 + 1)).1 1) (K + 400 * (t.1 0 30).toInt) := B.1.2.2.1
    have m1 : (pI t 0 30 (t.1 0 30 + 1)).1 1 = t.1 1 := pI_o _ _ _ _ _ (by decide)
    have c45 : (pI s 5 3 (s.1 5 3 + 1)).1 45 = s.1 45 := pI_o _ _ _ _ _ (by decide)
    have c27 : (pI s 5 3 (s.1 5 3 + 1)).1 27 = s.1 27 := pI_o _ _ _ _ _ (by decide)
    refine rq_cM (fun _ => ?_)
    generalize pI s 5 3 (s.1 5 3 + 1) = s1 at B1 T1 c45 c27 ⊢
    generalize pI t 0 30 (t.1 0 30 + 1) = t1 at B1 st1 T1 G1 m1 ⊢
    rw [ix.2.1, show t1.1 1 (110 + 6 * n) = t.1 1 (110 + 6 * n) by rw [m1]]
    by_cases s27 : t.1 1 (110 + 6 * n) = 27
    · rw [if_pos s27]
      have w : s1.1 45 n = 130 := by rw [c45]; exact kd.2.2.1.mpr s27
      refine rq_pp (P := fun _ s' => s' = s1) (Q := fun _ t' => t' = t1) (pq_b (act_stz hv w) (fun _ s7 k => pq_b (bs_sz hv (by rw [k]; exact w)) (fun r8 s9 k2 => ?_))) (pq_s rfl) (fun _ s' _ t' k1 k2 => ?_)
      · rw [k2.2, k2.1, k]
        exact run_ez (Int32.le_iff_toInt_le.mpr (by omega)) m
      · rw [k1, k2]
        exact B1
    · rw [if_neg s27]
      have P1 := B1.2.1
      have R1 := P1.2.1 n nX
      have A := rq_a (act_rz B1.1.1.1 B1.1.2.1 B1.1.1.2 (K := K + 400 * (t.1 0 30).toInt) (by omega) G1 (show n < 60 by omega) v (110 + 6 * v) hv ix.1 R1.1.1 R1.1.2 (by rw [m1]; exact n26) (by rw [m1]; exact s27)) (fy_X3_act_25_53_27_5 v s1) (fq_X12_does (110 + 6 * v) t1)
      refine rq_b2 A (fun _ s7 r2 t3 k => ?_)
      obtain ⟨⟨⟨⟨k1, k2, k3⟩, k4⟩, k5⟩, k6, k7⟩ := k
      have M3 : ∀ p, (110 ≤ p ∨ PlP p ∨ p = 11) → t3.1 1 p = t1.1 1 p := k4.1
      have z30 : t3.1 0 30 = t1.1 0 30 := k4.2.2.1 30 (by decide) (by decide) (by decide)
      have c18 : s7.1 19 = s1.1 19 := funext fun j => fr_e k6 19 j 19 rfl rfl
      have cC : ∀ c, c = 27 ∨ (45 ≤ c ∧ c ≤ 50) → s7.1 c = s1.1 c := fun c hc => funext fun j => by
        rcases (show c = 27 ∨ c = 45 ∨ c = 46 ∨ c = 47 ∨ c = 48 ∨ c = 49 ∨ c = 50 by omega) with z | z | z | z | z | z | z <;> subst z
        · exact fr_e k6 27 j 27 rfl rfl
        · exact fr_e k6 45 j 45 rfl rfl
        · exact fr_e k6 46 j 46 rfl rfl
        · exact fr_e k6 47 j 47 rfl rfl
        · exact fr_e k6 48 j 48 rfl rfl
        · exact fr_e k6 49 j 49 rfl rfl
        · exact fr_e k6 50 j 50 rfl rfl
      have c48 : s7.1 5 8 = s1.1 5 8 := fr_e k6 5 8 278 rfl rfl
      have q11 : t3.1 11 0 = t1.1 11 0 := fr_e k7 11 0 300 rfl rfl
      have q14 : t3.1 11 4 = t1.1 11 4 := fr_e k7 11 4 304 rfl rfl
      have go : ∀ d : Int32, TlRz d s7 t3 → RQ (bd (f_X3_behindStep_25_53_27_5 v s7) (fun r8 s9 => f_X3_run_25_53_27_5_b12 m r8 (v6 + 1) s9)) (f_X12_lives_b111 (f_X12_lives_b32 m2) v (110 + 6 * v) d (t1.1 11 0) 0 t3) (fun _ s' _ t' => LfBz X K s' t') := fun d Td => by
        obtain ⟨u1, u2, u3, u4, u5, u6⟩ := Td
        unfold f_X12_lives_b111
        refine rq_cM (fun _ => rq_nM (fun s5 e5 => rq_cM (fun _ => ?_)))
        have e5' : s5 = pI t3 11 0 (s7.1 5 4) := by
          rw [e5, ← q11, u3]
          rfl
        have x1 : s5.1 1 = t3.1 1 := by rw [e5']; exact pI_o _ _ _ _ _ (by decide)
        have x0 : s5.1 0 = t3.1 0 := by rw [e5']; exact pI_o _ _ _ _ _ (by decide)
        have x10 : s5.1 10 = t3.1 10 := by rw [e5']; exact pI_o _ _ _ _ _ (by decide)
        have y : ∀ j, ¬ j = 0 → s5.1 11 j = t3.1 11 j := fun j hj => by rw [e5', pI_1, if_neg (fun z => hj z.2)]
        have y0 : s5.1 11 0 = s7.1 5 4 := by rw [e5', q_eq]
        have B5 : LfBz X K s7 s5 := by
          refine ⟨⟨⟨ng_k k1 (fun _ _ => rfl) (fun k _ => by rw [x1]) (by rw [x0]), dye_kz k2 rfl (by rw [x1])⟩, ⟨?_, ?_, ?_, ?_, ?_, ?_⟩, ?_⟩, ?_, ?_⟩
          · rw [x0]; exact u1
          · rw [x0]; exact u2
          · rw [y0, add0]
          · rw [y 1 (by decide)]; exact u4
          · rw [y 2 (by decide)]; exact u5
          · rw [y 3 (by decide)]; exact u6
          · rw [x1, x0, z30]
            exact ⟨gn_up k3 (by omega), by omega, by omega⟩
          · rw [x1]
            exact pgx_k P1 cC M3
          · rw [y 4 (by decide), c48, q14, show s7.1 5 1 = s1.1 5 1 from fr_e k6 5 1 271 rfl rfl]
            exact B1.2.2
        have T5 : TnR 19 X n s7 s5 := tn_c T1 c18 (x10.trans (k4.2.1 10 (by decide) (by decide) (by decide))) (fun p hp => by rw [x1]; exact M3 p (Or.inl hp))
        exact bstz hv nX B5 T5 (by rw [x1, M3 _ (Or.inl (by omega)), m1]; exact s27) E (by omega) (by rw [x0, z30]; omega)
      rcases k5 with ⟨e, Td⟩ | ⟨e, Td⟩
      · rw [e, if_neg (show ¬ (1 : Int32) = 0 by decide)]
        exact go 0 Td
      · rw [e, if_pos (show (0 : Int32) = 0 from rfl)]
        exact go 1 Td
  · exact rq_s (lfb_xz B)
  · exfalso
    have c := i_nlt c
    have d := i_ne d
    rw [tl3] at c
    omega
theorem lf_allz {X : Nat} {K : Int} (hK : 9999 ≤ K ∧ K + 200000 ≤ 900000000) (m : Nat) : HdLz X K m ∧ HdEz X K m := by
  induction m with
  | zero =>
    constructor
    · intro m2 n v v6 s t _ _ _ _ _ _ _ a s' b t' e
      cases e
    · intro m1 m2 n v v6 s t _ _ _ _ _ a s' b t' e
      cases e
  | succ m ih =>
    have L := hd_lz hK ih.2
    exact ⟨L, hd_ez ih.2 L⟩
