/-! street: its answer -/
def TapB (sC sM : Sg) : Prop := ∀ k : Nat, (k : Int) < (sM.1 0 10).toInt → sC.1 1 k = sM.1 6 k &&& 255
theorem ct_x (s : Sg) : PQ (f_X11_closeText s) (fun _ s9 => s9 = pI (pI (pI s 0 13 0) 0 18 (s.1 7 8)) 0 19 (s.1 7 9)) := by
  unfold f_X11_closeText
  refine pq_n (fun s1 e1 => pq_s ?_)
  rw [e1, q_nc rfl, q_nc rfl, q_nc rfl]
theorem street_x {sC sM : Sg} (a1 : Int32) (e10 : sC.1 0 13 = sM.1 0 10) (hc : 0 ≤ (sM.1 0 10).toInt ∧ (sM.1 0 10).toInt ≤ 900) (tb : TapB sC sM) {R : Int32 → Sg → Int32 → Sg → Prop} {J : Sg → Prop} (hJ : ∀ t, J t → PQ (f_X12_streetPart t) (fun r t' => ¬ r = 0 → J t')) (hJ0 : ∀ t t', ClrM t t' → J (pI t' 0 20 0))
    (hO : RQ (some ((-1 : Int32), pI sC 0 15 1)) (some ((-1 : Int32), pI sM 0 2 1)) R)
    (hE : ∀ n s t, SR n s t → J t → s.1 7 3 = 0 → RQ (bd (f_X11_closeText s) (fun _ s10 => bd (f_X10_copyFrom_51 s10) (fun _ s14 => bd (f_X11_answer (s14.1 25 14) s14) (fun r15 s16 => some (r15, s16))))) (f_X12_street_b50 t) R)
    (hF : ∀ s t, FtR s t → RQ (bd (f_X11_closeText s) (fun _ s10 => bd (f_X11_refuse 9 s10) (fun r11 s12 => some (r11, s12)))) (f_X12_street_b50 t) R) : RQ (f_X11_street a1 sC) (f_X12_street a1 sM) R := by
  have e0 : (0 : Int32).toInt = 0 := rfl
  have e900 : (900 : Int32).toInt = 900 := rfl
  unfold f_X11_street f_X12_street f_X12_begins
  refine rq_bC (wi_p a1 0 (sC.1 0 13) sC) (fun r1 s2 g => ?_)
  obtain ⟨es, g⟩ := g
  subst es
  rw [e10] at g
  have out : RQ (bd (f_X11_refuse 1 s2) (fun r s => some (r, s))) (bd (f_X12_refuse 1 sM) (fun r t => some (r, t))) R := hO
  rcases g with ⟨z, g1, g2⟩ | ⟨z, g⟩ <;> subst z
  · rw [if_neg i10]
    refine rm_i (fun c => absurd (i_lt c) (by omega)) (fun _ => rm_i (fun c => absurd (i_lt c) (by omega)) (fun _ => rm_i (fun _ => ?_) (fun c => absurd (i_nle c) (by omega))))
    unfold f_X7_begin
    refine rc_n (fun s1 e1 => rc_n (fun s3 e3 => rc_b ?_))
    have hn : a1.toInt = (a1.toInt.toNat : Int) := by omega
    have c1 : s3.1 1 = s2.1 1 := by rw [e3, pI_o _ _ _ _ _ (by decide), pI_o _ _ _ _ _ (by decide), pI_o _ _ _ _ _ (by decide), e1, pI_o _ _ _ _ _ (by decide)]
    have c71 : s3.1 7 1 = a1 := by
      rw [e3, q_ne rfl, q_ne rfl, q_ne rfl, e1, q_eq, if_neg (fun z => by have := i_lt z; omega)]
    have c72 : s3.1 7 2 = 0 := by rw [e3, q_ne rfl, q_ne rfl, q_eq]
    refine beg_r hn ⟨rfl, by rw [c71]; exact hn, by omega⟩ c72 sM (fun i hi => ?_) (fun s t tk z18 fC kM k2 z17 => ?_) BIG 0 0 _ rfl (Nat.zero_le _) (fun k hk => absurd hk (Nat.not_lt_zero _)) (by rw [q_eq]; exact hn) (fun c y1 _ => pI_o _ _ _ _ _ y1) rfl
    · rw [c1]
      exact tb i (by omega)
    · refine rc_s ?_
      unfold f_X6_takeText
      refine rq_iM (fun z => absurd z i10) (fun _ => rc_b (rq_bC (clr_51 s) (fun _ s4 c => rq_bM (pln_p t) (fun _ t6 m => ?_))))
      refine parts_r _ hJ (fun s9 t9 h9 j9 k9 => ?_) (fun s9 t9 h9 => ?_) BIG BIG 1 0 1 _ _ (Or.inl ⟨rfl, rfl, sr_0 tk z18 c m rfl rfl, ⟨Int.le_refl _, ?_⟩, hJ0 t t6 m⟩)
      · exact hE _ s9 t9 h9 j9 k9
      · exact hF s9 t9 h9
      · have q := tk_pos tk
        have k7 : (pI (pI s4 8 3 0) 8 4 0).1 7 = s.1 7 := by rw [pI_o _ _ _ _ _ (by decide), pI_o _ _ _ _ _ (by decide), c.2.2.2.1 7 (by decide)]
        rw [k7, e0]
        exact q.2.1
  · rw [if_pos rfl]
    by_cases c1 : a1 < 0
    · refine rm_i (fun _ => rm_s (rq_iM (fun _ => out) (fun z => absurd rfl z))) (fun z => absurd c1 z)
    · have c1' := i_nlt c1
      refine rm_i (fun z => absurd z c1) (fun _ => rm_i (fun _ => rm_s (rq_iM (fun _ => out) (fun z => absurd rfl z))) (fun z => ?_))
      have z := i_nlt z
      exact absurd ⟨c1', z⟩ g
theorem street_an {sC sM : Sg} (a1 : Int32) (e10 : sC.1 0 13 = sM.1 0 10) (hc : 0 ≤ (sM.1 0 10).toInt ∧ (sM.1 0 10).toInt ≤ 900) (tb : TapB sC sM) : RQ (f_X11_street a1 sC) (f_X12_street a1 sM) (fun r _ r' _ => r = r') := by
  refine street_x a1 e10 hc tb (J := fun _ => True) (fun _ _ _ _ _ _ => trivial) (fun _ _ _ => trivial) (rq_s rfl) (fun n s t h _ k => ?_) (fun s t h => ?_)
  · refine rq_bC (ct_x s) (fun _ s10 e => rq_bC (cw_X10_copyFrom_51 s10) (fun _ s14 w => ?_))
    have p : RQ (some (s14.1 25 14, pI s14 0 15 0)) (f_X12_street_b50 t) (fun r _ r' _ => r = r') := by
      refine rq_pp (P := fun r _ => r = s14.1 25 14) (pq_s rfl) (swx_50y t h.1.2.1) (fun r _ r' _ q y => ?_)
      obtain ⟨s', m, y1, -⟩ := y
      have a : s14.1 25 14 = s10.1 52 14 := w.2.1 1 14 (by decide) (by decide) (by decide) (by decide)
      have b : s'.1 1 1 = t.1 1 1921 := m.1.1 1 (by decide)
      have d : s10.1 52 14 = s.1 52 14 := by rw [e, q_nc rfl, q_nc rfl, q_nc rfl]
      have f : s.1 52 14 = t.1 1 1921 := h.2.1.1.2.1
      rw [q, y1, a, d, f, b]
    exact p
  · refine rq_bC (ct_x s) (fun _ s10 e => ?_)
    have p : RQ (some ((-1 : Int32), pI s10 0 15 9)) (f_X12_street_b50 t) (fun r _ r' _ => r = r') := by
      have h0 : ¬ t.1 0 18 = 0 := fun z => by
        have h3 := h.2.2
        rw [z] at h3
        exact absurd h3 (by decide)
      exact rq_pp (P := fun r _ => r = -1) (pq_s rfl) (swx_50n t h0 (Int.le_of_lt h.2.2)) (fun r _ r' _ q y => q.trans y.1.symm)
    exact p
