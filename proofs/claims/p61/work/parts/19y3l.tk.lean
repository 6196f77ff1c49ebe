/-! days that are not taken leave the program alone, on both sides -/
def KdC (s s9 : Sg) : Prop := s9.1 0 15 = 0 ∨ ∀ c, (c = 27 ∨ (45 ≤ c ∧ c ≤ 50)) → s9.1 c = s.1 c
theorem kd_c {L : Nat} {s s9 : Sg} (f : Fr cC L s s9) (e : L &&& MGD = 0) : ∀ c, (c = 27 ∨ (45 ≤ c ∧ c ≤ 50)) → s9.1 c = s.1 c := (gmc_d f e).2
theorem kd_days (a1 : Int32) (s : Sg) : PQ (f_X11_days a1 s) (fun _ s9 => KdC s s9) := by
  unfold f_X11_days
  refine pq_b (wi_p a1 0 (s.1 0 13) s) (fun r1 s2 g => ?_)
  obtain ⟨es, -⟩ := g
  subst es
  have rf : ∀ (w : Int32) (u : Sg), (∀ c, (c = 27 ∨ (45 ≤ c ∧ c ≤ 50)) → u.1 c = s2.1 c) → PQ (bd (f_X11_refuse w u) (fun r s => some (r, s))) (fun _ s9 => KdC s2 s9) := fun w u hu => by
    have q : PQ (some ((-1 : Int32), pI u 0 15 w)) (fun _ s9 => KdC s2 s9) := pq_s (Or.inr (fun c hc => by rw [pI_o _ _ _ _ _ (by omega)]; exact hu c hc))
    exact q
  refine pq_if (fun _ => rf 1 s2 (fun _ _ => rfl)) (fun _ => pq_if (fun _ => pq_b (ft_X7_begin a1 s2) (fun _ s6 f6 => pq_b (ft_X1_takeText s6) (fun r7 s8 f8 => pq_b (ct_x s8) (fun _ s10 e10 => pq_if (fun _ => rf 9 s10 (fun c hc => ?_)) (fun _ => pq_b pq_tr (fun _ s14 _ => ?_)))))) (fun _ => rf 1 s2 (fun _ _ => rfl)))
  · rw [e10, pI_o _ _ _ _ _ (by omega), pI_o _ _ _ _ _ (by omega), pI_o _ _ _ _ _ (by omega), kd_c f8 rfl c hc, kd_c f6 rfl c hc]
  · have q : PQ (some (s14.1 27 8, pI s14 0 15 0)) (fun _ s9 => KdC s2 s9) := pq_s (Or.inl q_eq)
    exact q
def KdM (s s9 : Sg) : Prop := s9.1 0 2 = 0 ∨ ∀ p, p < 480 → s9.1 1 p = s.1 1 p
def Kd4 (s s9 : Sg) : Prop := ∀ p, p < 480 → s9.1 1 p = s.1 1 p
theorem kdm_tk {s s9 : Sg} (h : Kd4 s s9) (hz : ¬ s9.1 0 18 = 0) (hp : 0 ≤ (s9.1 0 18).toInt) (a : Int32) : PQ (bd (f_X12_taken a s9) (fun r s => some (r, s))) (fun _ s9 => KdM s s9) := by
  refine pq_b (taken_p a s9) (fun r u g => pq_s (Or.inr (fun p hp2 => ?_)))
  rcases g with g | g
  · exfalso
    refine hz (Int32.toInt_inj.mp ?_)
    have e0 : (0 : Int32).toInt = 0 := rfl
    omega
  · rw [g.2.2, q_nc rfl, q_nc rfl]
    exact h p hp2
theorem kdm_77 {s s9 : Sg} (h : Kd4 s s9) (hp : 0 ≤ (s9.1 0 18).toInt) : PQ (f_X12_days_b77 s9) (fun _ u => KdM s u) := by
  unfold f_X12_days_b77
  refine pq_if (fun hz => ?_) (fun hz => kdm_tk h hz hp _)
  have z18 : (pI s9 1 11 (s9.1 1 1931)).1 0 18 = 0 := by rw [q_nc rfl]; exact hz
  refine pq_w (cpd_d _ z18 BIG 110 110 _ rfl (by decide) (by decide) ⟨fun _ _ => rfl, rfl, fun p => by rw [if_neg (by omega)]⟩) (fun r u g => Or.inl ?_)
  obtain ⟨t', m, -, e⟩ := g
  rw [e]
  exact q_eq
theorem kdm_57 {s s9 : Sg} (hR : Rg rM s9) (hF : Fvz s9) (h : Kd4 s s9) : PQ (f_X12_days_b57 s9) (fun _ u => KdM s u) := by
  unfold f_X12_days_b57
  refine pq_if (fun _ => pq_if (fun _ => kdm_77 h hF.2) (fun _ => pq_b (pq_and (pq_o (h_X12_fails 2 hR (by decide))) (fv_X12_fails 2 (by decide) hF)) (fun _ s14 g => kdm_77 (fun p hp => ?_) g.2.2))) (fun _ => kdm_77 h hF.2)
  have k : s14.1 1 p = s9.1 1 p := by
    by_cases z : p < 13
    · exact fr_e g.1.1.2 1 p (60 + p) (cd_lo z) ((show ∀ p, p < 13 → Nat.testBit 412316860416 (60 + p) = false from by decide) p z)
    · by_cases y : p < 110
      · exact fr_e g.1.1.2 1 p 1 (cd_mi (by omega) y) rfl
      · exact fr_e g.1.1.2 1 p 100 (cd_ro (by omega) hp) rfl
  rw [k]
  exact h p hp
theorem kdm_38 {s : Sg} (m : Nat) : ∀ (v2 : Int32) (s9 : Sg), Rg rM s9 → Fvz s9 → (v2.toInt = 0 ∨ (0 ≤ (s9.1 1 1931).toInt ∧ (s9.1 1 1931).toInt + (s9.1 0 22).toInt ≤ 2 * (s9.1 0 23).toInt)) → Kd4 s s9 → PQ (f_X12_days_b38 m v2 s9) (fun _ u => KdM s u) := by
  induction m with
  | zero => intro v2 s9 _ _ _ _ r u e; cases e
  | succ m ih =>
    intro v2 s9 hR hF hx h
    have e0 : (0 : Int32).toInt = 0 := rfl
    unfold f_X12_days_b38
    refine pq_if (fun _ => kdm_57 hR hF h) (fun c => pq_if (fun _ => kdm_57 hR hF h) (fun _ => pq_b (pq_and (pq_o (h_X12_dayStep hR (hx.elim (fun z => absurd (Int32.toInt_inj.mp (z.trans e0.symm)) c) id))) (fv_X12_dayStep hF)) (fun r s2 g => ih r s2 g.1.1.1 g.2 (g.1.2.1.2.imp id (fun z => ⟨z.1, z.2.1⟩)) (fun p hp => ?_))))
    have k : s2.1 1 p = s9.1 1 p := by
      by_cases z : p < 13
      · exact fr_e g.1.1.2 1 p (60 + p) (cd_lo z) ((show ∀ p, p < 13 → Nat.testBit 5073078280991488380207491973376 (60 + p) = false from by decide) p z)
      · by_cases y : p < 110
        · exact fr_e g.1.1.2 1 p 1 (cd_mi (by omega) y) rfl
        · exact fr_e g.1.1.2 1 p 100 (cd_ro (by omega) hp) rfl
    rw [k]
    exact h p hp
theorem kdm_days (a1 : Int32) {s : Sg} (hR : Rg rM s) : PQ (f_X12_days a1 s) (fun _ u => KdM s u) := by
  unfold f_X12_days
  refine pq_b (pq_and (pq_o (h_X12_begins a1 300 hR (by decide))) (bgm_p a1 300 s)) (fun r s2 g => ?_)
  have k : Kd4 s s2 := fun p hp => by
    by_cases z : p < 13
    · exact fr_e g.1.1.2 1 p (60 + p) (cd_lo z) ((show ∀ p, p < 13 → Nat.testBit 1029718409344 (60 + p) = false from by decide) p z)
    · by_cases y : p < 110
      · exact fr_e g.1.1.2 1 p 1 (cd_mi (by omega) y) rfl
      · exact fr_e g.1.1.2 1 p 100 (cd_ro (by omega) hp) rfl
  refine pq_if (fun _ => ?_) (fun c => pq_n (fun s5 e5 => ?_))
  · have q : PQ (some ((-1 : Int32), pI s2 0 2 1)) (fun _ u => KdM s u) := pq_s (Or.inr (fun p hp => by rw [q_nc rfl]; exact k p hp))
    exact q
  · have e0 : (0 : Int32).toInt = 0 := rfl
    have js5 : JM 6340728883580901023760718496128 s2 s5 := by
      rw [e5]
      exact j_wr 0 30 (j_wr 0 3 (j_wr (-1) 60 (j_refl g.1.1.1) rfl 91 rfl rfl (by omega)) rfl 42 rfl rfl (by omega)) rfl 43 rfl rfl (by omega)
    have hF : Fvz s2 := g.2.elim (fun z => absurd z.1 c) (fun z => z.2)
    refine kdm_38 BIG 1 s5 js5.1 ?_ (Or.inr ?_) (fun p hp => ?_)
    · rw [e5]
      exact fv_i (fv_i (fv_i hF 1 rfl rfl) 42 rfl rfl) 43 rfl rfl
    · have a : s5.1 1 1931 = 0 := by rw [e5, q_nc rfl, q_nc rfl, q_eq]
      have b : s5.1 0 22 = 0 := by rw [e5, q_ne rfl, q_eq]
      have c : s5.1 0 23 = 0 := by rw [e5, q_eq]
      rw [a, b, c, e0]
      decide
    · rw [e5, q_nc rfl, q_nc rfl, pI_1, if_neg (fun z => by have := z.2; omega)]
      exact k p hp
theorem prg_days {s t s' t' : Sg} {K : Int} (F : FgR K s t) (kc : KdC s s') (km : KdM t t') (es : s'.1 0 15 = t'.1 0 2) (dp : s'.1 0 15 = 0 → DayP s' t') : PrgR s' (t'.1 1) := by
  by_cases z : s'.1 0 15 = 0
  · exact (dp z).2.2
  · have c := kc.elim (fun y => absurd y z) id
    have m := km.elim (fun y => absurd (es.trans y) z) id
    exact prw_0.mp (prw_x F.1.2 (fun i k hi _ _ => by rw [c (24 + 0 + i) (by omega)]) (fun p hp => m p (by
      rcases hp with y | y | y
      · omega
      · have := (plp_lt y).1
        omega
      · omega)))
