/-! life: one row's act on both sides -/
def bcV (a : Int32) : Int32 :=
  let x1 := a - (((a.toUInt32 >>> ((1 : Int32).toUInt32 &&& Int32.toUInt32 31)).toInt32) &&& 1431655765)
  let x2 := (x1 &&& 858993459) + (((x1.toUInt32 >>> ((2 : Int32).toUInt32 &&& Int32.toUInt32 31)).toInt32) &&& 858993459)
  let x3 := (x2 + ((x2.toUInt32 >>> ((4 : Int32).toUInt32 &&& Int32.toUInt32 31)).toInt32)) &&& 252645135
  let x4 := x3 + ((x3.toUInt32 >>> ((8 : Int32).toUInt32 &&& Int32.toUInt32 31)).toInt32)
  let x5 := x4 + ((x4.toUInt32 >>> ((16 : Int32).toUInt32 &&& Int32.toUInt32 31)).toInt32)
  x5 &&& 63
theorem bc_p (a : Int32) (s : Sg) : PQ (f_bitCount a s) (fun r s' => s' = s ∧ r = bcV a) := by
  unfold f_bitCount
  refine pq_n (fun x1 e1 => pq_n (fun x2 e2 => pq_n (fun x3 e3 => pq_n (fun x4 e4 => pq_n (fun x5 e5 => pq_s ⟨rfl, ?_⟩)))))
  subst e1; subst e2; subst e3; subst e4; subst e5
  rfl
theorem bc_n : ∀ n, n < 256 → bcV (Int32.ofNat n) = cntI (fun q => bt (Int32.ofNat n) q) 8 := by decide +kernel
theorem b255 : ∀ i, i < 32 → bt 255 i = decide (i < 8) := by decide
theorem bc_v {a : Int32} (h : ∀ i, i < 32 → 8 ≤ i → bt a i = false) : bcV a = cntI (fun q => bt a q) 8 := by
  have e : a &&& 255 = a := bt_ext (fun i hi => by
    rw [bt_and, b255 i hi]
    by_cases z : i < 8
    · rw [decide_eq_true z, Bool.and_true]
    · rw [h i hi (by omega), Bool.false_and])
  have r := i_and a 255 (by decide)
  rw [e] at r
  have c : (255 : Int32).toInt = 255 := rfl
  have ea : a = Int32.ofNat a.toInt.toNat := Int32.toInt_inj.mp (by rw [Int32.toInt_ofNat_of_lt (by omega)]; omega)
  have w := bc_n a.toInt.toNat (by omega)
  rw [← ea] at w
  exact w
theorem cnt_x {f : Nat → Bool} {Q : Nat} : ∀ n, Q ≤ n → (∀ q, Q ≤ q → q < n → f q = false) → cntI f n = cntI f Q := by
  intro n
  induction n with
  | zero =>
    intro h _
    have : Q = 0 := by omega
    rw [this]
  | succ n ih =>
    intro h hf
    by_cases z : Q = n + 1
    · rw [z]
    · rw [cnt_s, hf n (by omega) (by omega), if_neg (by decide), add0, ih (by omega) (fun q h1 h2 => hf q h1 (by omega))]
theorem bt_not (a : Int32) {i : Nat} (hi : i < 32) : bt (a ^^^ (-1)) i = !bt a i := by
  rw [bt_xor, bt_m1 i hi]
  cases bt a i <;> rfl
def TlR (ms : Int32) (s t : Sg) : Prop := s.1 4 2 = t.1 0 29 ∧ s.1 4 3 = t.1 0 30 ∧ s.1 4 4 = t.1 11 0 + ms ∧ s.1 4 5 = t.1 11 1 ∧ s.1 4 6 = t.1 11 2 ∧ s.1 4 7 = t.1 11 3
def DyE (s t : Sg) : Prop := s.1 26 6 = t.1 1 4 ∧ 0 ≤ (t.1 1 4).toInt ∧ (t.1 1 4).toInt ≤ 999
theorem tl_k {m : Int32} {s t s' t' : Sg} (T : TlR m s t) (h4 : ∀ k, 2 ≤ k → k ≤ 7 → s'.1 4 k = s.1 4 k) (h11 : t'.1 11 = t.1 11) (h29 : t'.1 0 29 = t.1 0 29) (h30 : t'.1 0 30 = t.1 0 30) : TlR m s' t' := by
  unfold TlR
  rw [h4 2 (by decide) (by decide), h4 3 (by decide) (by decide), h4 4 (by decide) (by decide), h4 5 (by decide) (by decide), h4 6 (by decide) (by decide), h4 7 (by decide) (by decide), h11, h29, h30]
  exact T
theorem tl_m {s t : Sg} (T : TlR 0 s t) : TlR 1 (pI s 4 4 ((s.1 4 4) + 1)) t := by
  obtain ⟨T1, T2, T3, T4, T5, T6⟩ := T
  have o : ∀ k, ¬ k = 4 → (pI s 4 4 ((s.1 4 4) + 1)).1 4 k = s.1 4 k := fun k hk => by rw [pI_1, if_neg (fun z => hk z.2)]
  unfold TlR
  rw [o 2 (by decide), o 3 (by decide), o 5 (by decide), o 6 (by decide), o 7 (by decide), q_eq, T3, add0]
  exact ⟨T1, T2, rfl, T4, T5, T6⟩
def TlRz (ms : Int32) (s t : Sg) : Prop := s.1 5 2 = t.1 0 29 ∧ s.1 5 3 = t.1 0 30 ∧ s.1 5 4 = t.1 11 0 + ms ∧ s.1 5 5 = t.1 11 1 ∧ s.1 5 6 = t.1 11 2 ∧ s.1 5 7 = t.1 11 3
def DyEz (s t : Sg) : Prop := s.1 53 6 = t.1 1 4 ∧ 0 ≤ (t.1 1 4).toInt ∧ (t.1 1 4).toInt ≤ 999
theorem tl_kz {m : Int32} {s t s' t' : Sg} (T : TlRz m s t) (h4 : ∀ k, 2 ≤ k → k ≤ 7 → s'.1 5 k = s.1 5 k) (h11 : t'.1 11 = t.1 11) (h29 : t'.1 0 29 = t.1 0 29) (h30 : t'.1 0 30 = t.1 0 30) : TlRz m s' t' := by
  unfold TlRz
  rw [h4 2 (by decide) (by decide), h4 3 (by decide) (by decide), h4 4 (by decide) (by decide), h4 5 (by decide) (by decide), h4 6 (by decide) (by decide), h4 7 (by decide) (by decide), h11, h29, h30]
  exact T
theorem tl_mz {s t : Sg} (T : TlRz 0 s t) : TlRz 1 (pI s 5 4 ((s.1 5 4) + 1)) t := by
  obtain ⟨T1, T2, T3, T4, T5, T6⟩ := T
  have o : ∀ k, ¬ k = 4 → (pI s 5 4 ((s.1 5 4) + 1)).1 5 k = s.1 5 k := fun k hk => by rw [pI_1, if_neg (fun z => hk z.2)]
  unfold TlRz
  rw [o 2 (by decide), o 3 (by decide), o 5 (by decide), o 6 (by decide), o 7 (by decide), q_eq, T3, add0]
  exact ⟨T1, T2, rfl, T4, T5, T6⟩
/-- what an act leaves alone in the reference -/
def KD (t0 t : Sg) : Prop := (∀ p, (110 ≤ p ∨ PlP p ∨ p = 11) → t.1 1 p = t0.1 1 p) ∧ (∀ c, ¬ c = 0 → ¬ c = 1 → ¬ c = 11 → t.1 c = t0.1 c) ∧ (∀ k, ¬ k = 25 → ¬ k = 26 → ¬ k = 29 → t.1 0 k = t0.1 0 k) ∧ t.2 = t0.2
theorem kd_l {w : Bool} {t0 t : Sg} (h : KL w t0 t) : KD t0 t := ⟨h.2.1, fun c h1 h2 _ => h.2.2.1 c h1 h2, fun k h1 h2 _ => h.2.2.2.1 k h1 h2, h.2.2.2.2⟩
theorem kd_11 {t0 t : Sg} {k : Nat} {v : Int32} (h : KD t0 t) : KD t0 (pI t 11 k v) := ⟨fun p hp => by rw [q_nc rfl]; exact h.1 p hp, fun c h1 h2 h3 => by rw [pI_o _ _ _ _ _ h3]; exact h.2.1 c h1 h2 h3, fun j h1 h2 h3 => by rw [q_nc rfl]; exact h.2.2.1 j h1 h2 h3, h.2.2.2⟩
theorem kd_29 {t : Sg} {v : Int32} : KD t (pI t 0 29 v) := ⟨fun p hp => q_nc rfl, fun c h1 h2 h3 => pI_o _ _ _ _ _ h1, fun j h1 h2 h3 => by rw [pI_1, if_neg (fun z => h3 z.2)], rfl⟩
theorem kd_t {a b c : Sg} (h : KD a b) (g : KD b c) : KD a c := ⟨fun p hp => (g.1 p hp).trans (h.1 p hp), fun k h1 h2 h3 => (g.2.1 k h1 h2 h3).trans (h.2.1 k h1 h2 h3), fun k h1 h2 h3 => (g.2.2.1 k h1 h2 h3).trans (h.2.2.1 k h1 h2 h3), g.2.2.2.trans h.2.2.2⟩
def ActP (K : Int) (t0 : Sg) (s' : Sg) (r' : Int32) (t' : Sg) : Prop := ((NowG 0 s' t' ∧ DyE s' t' ∧ GnR (t'.1 1) K) ∧ KD t0 t') ∧ ((r' = 1 ∧ TlR 0 s' t') ∨ (r' = 0 ∧ TlR 1 s' t'))
theorem dye_k {s t s' t' : Sg} (D : DyE s t) (h1 : s'.1 26 6 = s.1 26 6) (h2 : t'.1 1 4 = t.1 1 4) : DyE s' t' := by
  unfold DyE
  rw [h1, h2]
  exact D
theorem rain_a {s t : Sg} (H : NowG 0 s t) (T : TlR 0 s t) (D : DyE s t) {K : Int} (hK : 9999 ≤ K ∧ K ≤ 900000000) (G : GnR (t.1 1) K) (g : Int32) : RQ (f_X3_maybeRain_25_26 g s) (bd (f_X12_draw t) (fun r s7 => if r < g then bd (f_X12_rains s7) (fun _ s9 => some ((1 : Int32), pI s9 11 1 ((s9.1 11 1) + 1))) else some (1, s7))) (fun _ s' r' t' => ActP K t s' r' t') := by
  obtain ⟨T1, T2, T3, T4, T5, T6⟩ := T
  unfold f_X3_maybeRain_25_26 f_X12_draw
  refine rq_nC (fun s1 e1 => rm_n (fun t1 f1 => rm_s ?_))
  have H1 : NowG 0 s1 t1 := by
    rw [e1, f1]
    exact ng_k H (fun c hc => pI_o _ _ _ _ _ (by omega)) (fun k hk => by rw [q_nc rfl]) (by rw [pI_1, if_neg (by decide)])
  have d1 : s1.1 4 2 = t1.1 0 29 := by rw [e1, f1, q_eq, q_eq, T1]
  have o1 : ∀ k, ¬ k = 2 → s1.1 4 k = s.1 4 k := fun k hk => by rw [e1, pI_1, if_neg (fun z => hk z.2)]
  have o2 : ∀ k, ¬ k = 29 → t1.1 0 k = t.1 0 k := fun k hk => by rw [f1, pI_1, if_neg (fun z => hk z.2)]
  have o3 : t1.1 11 = t.1 11 := by rw [f1, pI_o _ _ _ _ _ (by decide)]
  have o4 : t1.1 1 = t.1 1 := by rw [f1, pI_o _ _ _ _ _ (by decide)]
  have o5 : s1.1 26 = s.1 26 := by rw [e1, pI_o _ _ _ _ _ (by decide)]
  have T' : TlR 0 s1 t1 := ⟨d1, by rw [o1 3 (by decide), o2 30 (by decide)]; exact T2, by rw [o1 4 (by decide), o3]; exact T3, by rw [o1 5 (by decide), o3]; exact T4, by rw [o1 6 (by decide), o3]; exact T5, by rw [o1 7 (by decide), o3]; exact T6⟩
  have D' : DyE s1 t1 := dye_k D (by rw [o5]) (by rw [o4])
  have G' : GnR (t1.1 1) K := by rw [o4]; exact G
  have K1 : KD t t1 := by rw [f1]; exact kd_29
  rw [d1]
  refine rq_iC (fun c => rq_iM (fun z => absurd (i_lt z) (by have := i_le c; omega)) (fun _ => rq_s ⟨⟨⟨H1, D', G'⟩, K1⟩, Or.inl ⟨rfl, T'⟩⟩)) (fun c => rq_iM (fun _ => ?_) (fun z => absurd (Int32.lt_iff_toInt_lt.mpr (i_nle c)) z))
  have B1 := bdk_of H1
  refine rq_b2 (rq_a (rains_r H1) (fy_X2_letRain_25 s1) (pq_and (kl_rains (w := true) B1 BIG 0 0 0 t1 rfl (by decide) kl_r) (gn_rains (by omega) BIG 0 0 0 t1 rfl (by decide) G' B1.1 H1.2.2.1.2.2.2.1.1))) (fun r s3 r' t9 g => ?_)
  obtain ⟨g1, F, L, G9⟩ := g
  have e4 : ∀ k, 2 ≤ k → k ≤ 7 → s3.1 4 k = s1.1 4 k := fun k k1 k2 => (F 4 k (by
    have : k = 2 ∨ k = 3 ∨ k = 4 ∨ k = 5 ∨ k = 6 ∨ k = 7 := by omega
    rcases this with z | z | z | z | z | z <;> subst z <;> rfl)).1
  obtain ⟨U1, U2, U3, U4, U5, U6⟩ := tl_k T' e4 (L.2.2.1 11 (by decide) (by decide)) (L.2.2.2.1 29 (by decide) (by decide)) (L.2.2.2.1 30 (by decide) (by decide))
  have q1 : ∀ k v, (pI t9 11 1 v).1 0 k = t9.1 0 k := fun k v => q_nc rfl
  have q2 : ∀ k v, ¬ k = 1 → (pI t9 11 1 v).1 11 k = t9.1 11 k := fun k v hk => by rw [pI_1, if_neg (fun z => hk z.2)]
  have q3 : ∀ k v, ¬ k = 5 → (pI s3 4 5 v).1 4 k = s3.1 4 k := fun k v hk => by rw [pI_1, if_neg (fun z => hk z.2)]
  refine rq_s ⟨⟨⟨?_, ?_, ?_⟩, ?_⟩, Or.inl ⟨rfl, ?_⟩⟩
  · exact ng_k g1.2 (fun c hc => pI_o _ _ _ _ _ (by omega)) (fun k hk => by rw [q_nc rfl]) (by rw [q_nc rfl])
  · exact dye_k D' (by rw [pI_o _ _ _ _ _ (by decide)]; exact (F 26 6 rfl).1) (by rw [pI_o _ _ _ _ _ (by decide)]; exact L.1 rfl)
  · rw [pI_o _ _ _ _ _ (by decide)]
    exact G9
  · exact kd_t K1 (kd_11 (kd_l L))
  · unfold TlR
    rw [q1, q1, q2 0 _ (by decide), q2 2 _ (by decide), q2 3 _ (by decide), q3 2 _ (by decide), q3 3 _ (by decide), q3 4 _ (by decide), q3 6 _ (by decide), q3 7 _ (by decide), q_eq, q_eq, U4]
    exact ⟨U1, U2, U3, rfl, U5, U6⟩
theorem strew_a {s t : Sg} (H : NowG 0 s t) (T : TlR 0 s t) (D : DyE s t) {K : Int} (hK : 9999 ≤ K ∧ K ≤ 900000000) (G : GnR (t.1 1) K) {a g : Int32} {h : Nat} (ha : a.toInt = (h : Int)) (hh : h < 8) (ng : ¬ bt (t.1 1 9) h = true) (hg : 1 ≤ g.toInt ∧ g.toInt ≤ 999) : RQ (f_X3_tryStrew_26 a g s) (bd (f_X12_hasRoom a g t) (fun r s11 => if r = 0 then some ((0 : Int32), s11) else bd (f_X12_strews a g s11) (fun _ s13 => some (1, s13)))) (fun _ s' r' t' => ActP K t s' r' t') := by
  unfold f_X3_tryStrew_26
  refine rq_f (room_c H.1.2.1 ha hh g) (room_m ha hh g t) Iff.rfl (fun y => ?_) (fun y => ?_)
  · refine rq_iC (fun z => absurd z i10) (fun _ => rq_iM (fun z => absurd z i10) (fun _ => ?_))
    refine rq_b2 (rq_a (add_r H ha hh ng g) (fy_X2_addSalt a g s) (pq_and (kl_strews (w := true) kl_r ha hh g) (gn_strews G (by omega) ha hh (by omega) y))) (fun _ s4 _ t4 q => rq_s ?_)
    obtain ⟨q1, F, L, G4⟩ := q
    refine ⟨⟨⟨q1.1, dye_k D (F 26 6 rfl).1 (L.1 rfl), G4⟩, kd_l L⟩, Or.inl ⟨rfl, tl_k T (fun k k1 k2 => (F 4 k (by
      have : k = 2 ∨ k = 3 ∨ k = 4 ∨ k = 5 ∨ k = 6 ∨ k = 7 := by omega
      rcases this with z | z | z | z | z | z <;> subst z <;> rfl)).1) (L.2.2.1 11 (by decide) (by decide)) (L.2.2.2.1 29 (by decide) (by decide)) (L.2.2.2.1 30 (by decide) (by decide))⟩⟩
  · refine rq_iC (fun _ => rq_iM (fun _ => rq_s ?_) (fun z => absurd rfl z)) (fun z => absurd rfl z)
    exact ⟨⟨⟨ng_k H (fun c hc => pI_o _ _ _ _ _ (by omega)) (fun k hk => rfl) rfl, dye_k D (by rw [pI_o _ _ _ _ _ (by decide)]) rfl, G⟩, kd_l (kl_r (w := true))⟩, Or.inr ⟨rfl, tl_m T⟩⟩
theorem buy_a {s t : Sg} (H : NowG 0 s t) (T : TlR 0 s t) (D : DyE s t) {K : Int} (hK : 9999 ≤ K ∧ K ≤ 900000000) (G : GnR (t.1 1) K) {a g c b : Int32} {j h : Nat} (ha : a.toInt = (j : Int)) (hj : (j : Int) < (t.1 1 3).toInt) (hc : c.toInt = (h : Int)) (hh : h < 8) (ng : ¬ bt (t.1 1 9) h = true) (hg : 1 ≤ g.toInt ∧ g.toInt ≤ 999) (hb : t.1 1 ((b + 3).toNatClampNeg) = a) : RQ (f_X3_tryBuy_25_26 a g c s) (bd (f_X12_hasRoom c g t) (fun r14 s15 => if r14 = 0 then some ((0 : Int32), s15) else ck (inr (b + 3) 2880) (ck (inr (92 + (3 * (s15.1 1 ((b + 3).toNatClampNeg)))) 2880) (if g ≤ (s15.1 1 ((92 + (3 * (s15.1 1 ((b + 3).toNatClampNeg)))).toNatClampNeg)) then bd (f_X12_buys (s15.1 1 ((b + 3).toNatClampNeg)) g c s15) (fun r18 s19 => some (1, s19)) else some (0, s15))))) (fun _ s' r' t' => ActP K t s' r' t') := by
  have j4 : j < 4 := by
    have := H.1.1.2.1.2.2.2.2
    omega
  have x := gx_x ha j4
  have miss : ActP K t (pI s 4 4 ((s.1 4 4) + 1)) 0 t := ⟨⟨⟨ng_k H (fun c hc => pI_o _ _ _ _ _ (by omega)) (fun k hk => rfl) rfl, dye_k D (by rw [pI_o _ _ _ _ _ (by decide)]) rfl, G⟩, kd_l (kl_r (w := true))⟩, Or.inr ⟨rfl, tl_m T⟩⟩
  have st : s.1 44 j = t.1 1 (92 + 3 * j) := H.1.2.1 44 j _ (Or.inr (Or.inl ⟨j4, rfl, rfl⟩))
  unfold f_X3_tryBuy_25_26
  refine rq_f (room_c H.1.2.1 hc hh g) (room_m hc hh g t) Iff.rfl (fun y => ?_) (fun y => ?_)
  · refine rq_iC (fun z => absurd z i10) (fun _ => rq_iM (fun z => absurd z i10) (fun _ => ?_))
    have fin : RQ (bd (f_X2_addBought_25 a g c s) (fun r4 s5 => some ((), s5))) (bd (f_X12_buys a g c t) (fun r18 s19 => some ((1 : Int32), s19))) (fun _ s' r' t' => ActP K t s' r' t') := by
      refine rq_b2 (rq_a (buys_r H ha hj hc hh ng g) (fy_X2_addBought_25 a g c s) (pq_and (kl_buys (w := true) kl_r ha j4 hc hh g) (gn_buys G (by omega) ha j4 hc hh (by omega) (H.2.2.1.2.2.1 j hj).2 y))) (fun _ s4 _ t4 q => rq_s ?_)
      obtain ⟨q1, F, L, G4⟩ := q
      refine ⟨⟨⟨q1.2, dye_k D (F 26 6 rfl).1 (L.1 rfl), G4⟩, kd_l L⟩, Or.inl ⟨rfl, tl_k T (fun k k1 k2 => (F 4 k (by
        have : k = 2 ∨ k = 3 ∨ k = 4 ∨ k = 5 ∨ k = 6 ∨ k = 7 := by omega
        rcases this with z | z | z | z | z | z <;> subst z <;> rfl)).1) (L.2.2.1 11 (by decide) (by decide)) (L.2.2.2.1 29 (by decide) (by decide)) (L.2.2.2.1 30 (by decide) (by decide))⟩⟩
    rw [hb]
    refine rq_cC (fun _ => rq_cM (fun _ => rq_cM (fun _ => ?_)))
    rw [x.1, cl_h ha, st]
    exact rq_iC (fun z => rq_iM (fun u => absurd (i_lt z) (by have := i_le u; omega)) (fun _ => rq_s miss)) (fun z => rq_iM (fun _ => fin) (fun u => absurd (Int32.le_iff_toInt_le.mpr (i_nlt z)) u))
  · exact rq_iC (fun _ => rq_iM (fun _ => rq_s miss) (fun z => absurd rfl z)) (fun z => absurd rfl z)
theorem sweep_a {s t : Sg} (H : NowG 0 s t) (T : TlR 0 s t) (D : DyE s t) {K : Int} (hK : 9999 ≤ K ∧ K ≤ 900000000) (G : GnR (t.1 1) K) {a : Int32} {h : Nat} (ha : a.toInt = (h : Int)) (hh : h < 8) : RQ (f_X2_clearStep a s) (bd (f_X12_sweeps a t) (fun r20 s21 => if r20 < 0 then some ((0 : Int32), s21) else some (1, s21))) (fun _ s' r' t' => ActP K t s' r' t') := by
  have key : RQ (bd (f_X2_clearStep a s) (fun r s => some (r, s))) (bd (f_X12_sweeps a t) (fun r20 s21 => if r20 < 0 then some ((0 : Int32), s21) else some (1, s21))) (fun _ s' r' t' => ActP K t s' r' t') := by
    refine rq_b2 (rq_a (sweeps_r H ha hh) (fy_X2_clearStep a s) (pq_and (kl_sweeps (w := true) kl_r ha hh) (gn_sweeps G (by omega) ha hh))) (fun r s4 r' t4 q => ?_)
    obtain ⟨q1, F, L, G4, q5, q6⟩ := q
    have c0 : (0 : Int32).toInt = 0 := rfl
    refine rq_iM (fun z => absurd (i_lt z) (by omega)) (fun _ => rq_s ⟨⟨⟨q1.2, dye_k D (F 26 6 rfl).1 (L.1 rfl), G4⟩, kd_l L⟩, Or.inl ⟨rfl, tl_k T (fun k k1 k2 => (F 4 k (by
      have : k = 2 ∨ k = 3 ∨ k = 4 ∨ k = 5 ∨ k = 6 ∨ k = 7 := by omega
      rcases this with z | z | z | z | z | z <;> subst z <;> rfl)).1) (L.2.2.1 11 (by decide) (by decide)) (L.2.2.2.1 29 (by decide) (by decide)) (L.2.2.2.1 30 (by decide) (by decide))⟩⟩)
  intro r s' r' t' e1 e2
  exact key r s' r' t' (by rw [e1]; rfl) e2
theorem snow_a {s t : Sg} (H : NowG 0 s t) (T : TlR 0 s t) (D : DyE s t) {K : Int} (G : GnR (t.1 1) K) {g : Int32} (hg : 0 ≤ g.toInt ∧ g.toInt ≤ 99) : RQ (f_X2_letSnow_25 g s) (bd (f_X12_snows g t) (fun _ s23 => some ((1 : Int32), s23))) (fun _ s' r' t' => ActP K t s' r' t') := by
  have B := bdk_of H
  have key : RQ (bd (f_X2_letSnow_25 g s) (fun r s => some (r, s))) (bd (f_X12_snows g t) (fun _ s23 => some ((1 : Int32), s23))) (fun _ s' r' t' => ActP K t s' r' t') := by
    refine rq_b2 (rq_a (snows_r H g) (fy_X2_letSnow_25 g s) (pq_and (kl_snows (w := true) B g BIG 0 0 t rfl (by decide) kl_r) (gn_snows g (by omega) BIG 0 0 t rfl (by decide) G B.1))) (fun r s4 r' t4 q => rq_s ?_)
    obtain ⟨q1, F, L, G4⟩ := q
    exact ⟨⟨⟨q1, dye_k D (F 26 6 rfl).1 (L.1 rfl), G4⟩, kd_l L⟩, Or.inl ⟨rfl, tl_k T (fun k k1 k2 => (F 4 k (by
      have : k = 2 ∨ k = 3 ∨ k = 4 ∨ k = 5 ∨ k = 6 ∨ k = 7 := by omega
      rcases this with z | z | z | z | z | z <;> subst z <;> rfl)).1) (L.2.2.1 11 (by decide) (by decide)) (L.2.2.2.1 29 (by decide) (by decide)) (L.2.2.2.1 30 (by decide) (by decide))⟩⟩
  intro r s' r' t' e1 e2
  exact key r s' r' t' (by rw [e1]; rfl) e2
def ActPz (K : Int) (t0 : Sg) (s' : Sg) (r' : Int32) (t' : Sg) : Prop := ((NowG 27 s' t' ∧ DyEz s' t' ∧ GnR (t'.1 1) K) ∧ KD t0 t') ∧ ((r' = 1 ∧ TlRz 0 s' t') ∨ (r' = 0 ∧ TlRz 1 s' t'))
theorem dye_kz {s t s' t' : Sg} (D : DyEz s t) (h1 : s'.1 53 6 = s.1 53 6) (h2 : t'.1 1 4 = t.1 1 4) : DyEz s' t' := by
  unfold DyEz
  rw [h1, h2]
  exact D
theorem rain_az {s t : Sg} (H : NowG 27 s t) (T : TlRz 0 s t) (D : DyEz s t) {K : Int} (hK : 9999 ≤ K ∧ K ≤ 900000000) (G : GnR (t.1 1) K) (g : Int32) : RQ (f_X3_maybeRain_25_53_5 g s) (bd (f_X12_draw t) (fun r s7 => if r < g then bd (f_X12_rains s7) (fun _ s9 => some ((1 : Int32), pI s9 11 1 ((s9.1 11 1) + 1))) else some (1, s7))) (fun _ s' r' t' => ActPz K t s' r' t') := by
  obtain ⟨T1, T2, T3, T4, T5, T6⟩ := T
  unfold f_X3_maybeRain_25_53_5 f_X12_draw
  refine rq_nC (fun s1 e1 => rm_n (fun t1 f1 => rm_s ?_))
  have H1 : NowG 27 s1 t1 := by
    rw [e1, f1]
    exact ng_k H (fun c hc => pI_o _ _ _ _ _ (by omega)) (fun k hk => by rw [q_nc rfl]) (by rw [pI_1, if_neg (by decide)])
  have d1 : s1.1 5 2 = t1.1 0 29 := by rw [e1, f1, q_eq, q_eq, T1]
  have o1 : ∀ k, ¬ k = 2 → s1.1 5 k = s.1 5 k := fun k hk => by rw [e1, pI_1, if_neg (fun z => hk z.2)]
  have o2 : ∀ k, ¬ k = 29 → t1.1 0 k = t.1 0 k := fun k hk => by rw [f1, pI_1, if_neg (fun z => hk z.2)]
  have o3 : t1.1 11 = t.1 11 := by rw [f1, pI_o _ _ _ _ _ (by decide)]
  have o4 : t1.1 1 = t.1 1 := by rw [f1, pI_o _ _ _ _ _ (by decide)]
  have o5 : s1.1 53 = s.1 53 := by rw [e1, pI_o _ _ _ _ _ (by decide)]
  have T' : TlRz 0 s1 t1 := ⟨d1, by rw [o1 3 (by decide), o2 30 (by decide)]; exact T2, by rw [o1 4 (by decide), o3]; exact T3, by rw [o1 5 (by decide), o3]; exact T4, by rw [o1 6 (by decide), o3]; exact T5, by rw [o1 7 (by decide), o3]; exact T6⟩
  have D' : DyEz s1 t1 := dye_kz D (by rw [o5]) (by rw [o4])
  have G' : GnR (t1.1 1) K := by rw [o4]; exact G
  have K1 : KD t t1 := by rw [f1]; exact kd_29
  rw [d1]
  refine rq_iC (fun c => rq_iM (fun z => absurd (i_lt z) (by have := i_le c; omega)) (fun _ => rq_s ⟨⟨⟨H1, D', G'⟩, K1⟩, Or.inl ⟨rfl, T'⟩⟩)) (fun c => rq_iM (fun _ => ?_) (fun z => absurd (Int32.lt_iff_toInt_lt.mpr (i_nle c)) z))
  have B1 := bdk_of H1
  refine rq_b2 (rq_a (rains_rz H1) (fy_X2_letRain_25_53 s1) (pq_and (kl_rains (w := true) B1 BIG 0 0 0 t1 rfl (by decide) kl_r) (gn_rains (by omega) BIG 0 0 0 t1 rfl (by decide) G' B1.1 H1.2.2.1.2.2.2.1.1))) (fun r s3 r' t9 g => ?_)
  obtain ⟨g1, F, L, G9⟩ := g
  have e4 : ∀ k, 2 ≤ k → k ≤ 7 → s3.1 5 k = s1.1 5 k := fun k k1 k2 => (F 5 k (by
    have : k = 2 ∨ k = 3 ∨ k = 4 ∨ k = 5 ∨ k = 6 ∨ k = 7 := by omega
    rcases this with z | z | z | z | z | z <;> subst z <;> rfl)).1
  obtain ⟨U1, U2, U3, U4, U5, U6⟩ := tl_kz T' e4 (L.2.2.1 11 (by decide) (by decide)) (L.2.2.2.1 29 (by decide) (by decide)) (L.2.2.2.1 30 (by decide) (by decide))
  have q1 : ∀ k v, (pI t9 11 1 v).1 0 k = t9.1 0 k := fun k v => q_nc rfl
  have q2 : ∀ k v, ¬ k = 1 → (pI t9 11 1 v).1 11 k = t9.1 11 k := fun k v hk => by rw [pI_1, if_neg (fun z => hk z.2)]
  have q3 : ∀ k v, ¬ k = 5 → (pI s3 5 5 v).1 5 k = s3.1 5 k := fun k v hk => by rw [pI_1, if_neg (fun z => hk z.2)]
  refine rq_s ⟨⟨⟨?_, ?_, ?_⟩, ?_⟩, Or.inl ⟨rfl, ?_⟩⟩
  · exact ng_k g1.2 (fun c hc => pI_o _ _ _ _ _ (by omega)) (fun k hk => by rw [q_nc rfl]) (by rw [q_nc rfl])
  · exact dye_kz D' (by rw [pI_o _ _ _ _ _ (by decide)]; exact (F 53 6 rfl).1) (by rw [pI_o _ _ _ _ _ (by decide)]; exact L.1 rfl)
  · rw [pI_o _ _ _ _ _ (by decide)]
    exact G9
  · exact kd_t K1 (kd_11 (kd_l L))
  · unfold TlRz
    rw [q1, q1, q2 0 _ (by decide), q2 2 _ (by decide), q2 3 _ (by decide), q3 2 _ (by decide), q3 3 _ (by decide), q3 4 _ (by decide), q3 6 _ (by decide), q3 7 _ (by decide), q_eq, q_eq, U4]
    exact ⟨U1, U2, U3, rfl, U5, U6⟩
theorem strew_az {s t : Sg} (H : NowG 27 s t) (T : TlRz 0 s t) (D : DyEz s t) {K : Int} (hK : 9999 ≤ K ∧ K ≤ 900000000) (G : GnR (t.1 1) K) {a g : Int32} {h : Nat} (ha : a.toInt = (h : Int)) (hh : h < 8) (ng : ¬ bt (t.1 1 9) h = true) (hg : 1 ≤ g.toInt ∧ g.toInt ≤ 999) : RQ (f_X3_tryStrew_53_5 a g s) (bd (f_X12_hasRoom a g t) (fun r s11 => if r = 0 then some ((0 : Int32), s11) else bd (f_X12_strews a g s11) (fun _ s13 => some (1, s13)))) (fun _ s' r' t' => ActPz K t s' r' t') := by
  unfold f_X3_tryStrew_53_5
  refine rq_f (room_cz H.1.2.1 ha hh g) (room_m ha hh g t) Iff.rfl (fun y => ?_) (fun y => ?_)
  · refine rq_iC (fun z => absurd z i10) (fun _ => rq_iM (fun z => absurd z i10) (fun _ => ?_))
    refine rq_b2 (rq_a (add_rz H ha hh ng g) (fy_X2_addSalt_53 a g s) (pq_and (kl_strews (w := true) kl_r ha hh g) (gn_strews G (by omega) ha hh (by omega) y))) (fun _ s4 _ t4 q => rq_s ?_)
    obtain ⟨q1, F, L, G4⟩ := q
    refine ⟨⟨⟨q1.1, dye_kz D (F 53 6 rfl).1 (L.1 rfl), G4⟩, kd_l L⟩, Or.inl ⟨rfl, tl_kz T (fun k k1 k2 => (F 5 k (by
      have : k = 2 ∨ k = 3 ∨ k = 4 ∨ k = 5 ∨ k = 6 ∨ k = 7 := by omega
      rcases this with z | z | z | z | z | z <;> subst z <;> rfl)).1) (L.2.2.1 11 (by decide) (by decide)) (L.2.2.2.1 29 (by decide) (by decide)) (L.2.2.2.1 30 (by decide) (by decide))⟩⟩
  · refine rq_iC (fun _ => rq_iM (fun _ => rq_s ?_) (fun z => absurd rfl z)) (fun z => absurd rfl z)
    exact ⟨⟨⟨ng_k H (fun c hc => pI_o _ _ _ _ _ (by omega)) (fun k hk => rfl) rfl, dye_kz D (by rw [pI_o _ _ _ _ _ (by decide)]) rfl, G⟩, kd_l (kl_r (w := true))⟩, Or.inr ⟨rfl, tl_mz T⟩⟩
theorem buy_az {s t : Sg} (H : NowG 27 s t) (T : TlRz 0 s t) (D : DyEz s t) {K : Int} (hK : 9999 ≤ K ∧ K ≤ 900000000) (G : GnR (t.1 1) K) {a g c b : Int32} {j h : Nat} (ha : a.toInt = (j : Int)) (hj : (j : Int) < (t.1 1 3).toInt) (hc : c.toInt = (h : Int)) (hh : h < 8) (ng : ¬ bt (t.1 1 9) h = true) (hg : 1 ≤ g.toInt ∧ g.toInt ≤ 999) (hb : t.1 1 ((b + 3).toNatClampNeg) = a) : RQ (f_X3_tryBuy_25_53_5 a g c s) (bd (f_X12_hasRoom c g t) (fun r14 s15 => if r14 = 0 then some ((0 : Int32), s15) else ck (inr (b + 3) 2880) (ck (inr (92 + (3 * (s15.1 1 ((b + 3).toNatClampNeg)))) 2880) (if g ≤ (s15.1 1 ((92 + (3 * (s15.1 1 ((b + 3).toNatClampNeg)))).toNatClampNeg)) then bd (f_X12_buys (s15.1 1 ((b + 3).toNatClampNeg)) g c s15) (fun r18 s19 => some (1, s19)) else some (0, s15))))) (fun _ s' r' t' => ActPz K t s' r' t') := by
  have j4 : j < 4 := by
    have := H.1.1.2.1.2.2.2.2
    omega
  have x := gx_x ha j4
  have miss : ActPz K t (pI s 5 4 ((s.1 5 4) + 1)) 0 t := ⟨⟨⟨ng_k H (fun c hc => pI_o _ _ _ _ _ (by omega)) (fun k hk => rfl) rfl, dye_kz D (by rw [pI_o _ _ _ _ _ (by decide)]) rfl, G⟩, kd_l (kl_r (w := true))⟩, Or.inr ⟨rfl, tl_mz T⟩⟩
  have st : s.1 71 j = t.1 1 (92 + 3 * j) := H.1.2.1 71 j _ (Or.inr (Or.inl ⟨j4, rfl, rfl⟩))
  unfold f_X3_tryBuy_25_53_5
  refine rq_f (room_cz H.1.2.1 hc hh g) (room_m hc hh g t) Iff.rfl (fun y => ?_) (fun y => ?_)
  · refine rq_iC (fun z => absurd z i10) (fun _ => rq_iM (fun z => absurd z i10) (fun _ => ?_))
    have fin : RQ (bd (f_X2_addBought_25_53 a g c s) (fun r4 s5 => some ((), s5))) (bd (f_X12_buys a g c t) (fun r18 s19 => some ((1 : Int32), s19))) (fun _ s' r' t' => ActPz K t s' r' t') := by
      refine rq_b2 (rq_a (buys_rz H ha hj hc hh ng g) (fy_X2_addBought_25_53 a g c s) (pq_and (kl_buys (w := true) kl_r ha j4 hc hh g) (gn_buys G (by omega) ha j4 hc hh (by omega) (H.2.2.1.2.2.1 j hj).2 y))) (fun _ s4 _ t4 q => rq_s ?_)
      obtain ⟨q1, F, L, G4⟩ := q
      refine ⟨⟨⟨q1.2, dye_kz D (F 53 6 rfl).1 (L.1 rfl), G4⟩, kd_l L⟩, Or.inl ⟨rfl, tl_kz T (fun k k1 k2 => (F 5 k (by
        have : k = 2 ∨ k = 3 ∨ k = 4 ∨ k = 5 ∨ k = 6 ∨ k = 7 := by omega
        rcases this with z | z | z | z | z | z <;> subst z <;> rfl)).1) (L.2.2.1 11 (by decide) (by decide)) (L.2.2.2.1 29 (by decide) (by decide)) (L.2.2.2.1 30 (by decide) (by decide))⟩⟩
    rw [hb]
    refine rq_cC (fun _ => rq_cM (fun _ => rq_cM (fun _ => ?_)))
    rw [x.1, cl_h ha, st]
    exact rq_iC (fun z => rq_iM (fun u => absurd (i_lt z) (by have := i_le u; omega)) (fun _ => rq_s miss)) (fun z => rq_iM (fun _ => fin) (fun u => absurd (Int32.le_iff_toInt_le.mpr (i_nlt z)) u))
  · exact rq_iC (fun _ => rq_iM (fun _ => rq_s miss) (fun z => absurd rfl z)) (fun z => absurd rfl z)
theorem sweep_az {s t : Sg} (H : NowG 27 s t) (T : TlRz 0 s t) (D : DyEz s t) {K : Int} (hK : 9999 ≤ K ∧ K ≤ 900000000) (G : GnR (t.1 1) K) {a : Int32} {h : Nat} (ha : a.toInt = (h : Int)) (hh : h < 8) : RQ (f_X2_clearStep_53 a s) (bd (f_X12_sweeps a t) (fun r20 s21 => if r20 < 0 then some ((0 : Int32), s21) else some (1, s21))) (fun _ s' r' t' => ActPz K t s' r' t') := by
  have key : RQ (bd (f_X2_clearStep_53 a s) (fun r s => some (r, s))) (bd (f_X12_sweeps a t) (fun r20 s21 => if r20 < 0 then some ((0 : Int32), s21) else some (1, s21))) (fun _ s' r' t' => ActPz K t s' r' t') := by
    refine rq_b2 (rq_a (sweeps_rz H ha hh) (fy_X2_clearStep_53 a s) (pq_and (kl_sweeps (w := true) kl_r ha hh) (gn_sweeps G (by omega) ha hh))) (fun r s4 r' t4 q => ?_)
    obtain ⟨q1, F, L, G4, q5, q6⟩ := q
    have c0 : (0 : Int32).toInt = 0 := rfl
    refine rq_iM (fun z => absurd (i_lt z) (by omega)) (fun _ => rq_s ⟨⟨⟨q1.2, dye_kz D (F 53 6 rfl).1 (L.1 rfl), G4⟩, kd_l L⟩, Or.inl ⟨rfl, tl_kz T (fun k k1 k2 => (F 5 k (by
      have : k = 2 ∨ k = 3 ∨ k = 4 ∨ k = 5 ∨ k = 6 ∨ k = 7 := by omega
      rcases this with z | z | z | z | z | z <;> subst z <;> rfl)).1) (L.2.2.1 11 (by decide) (by decide)) (L.2.2.2.1 29 (by decide) (by decide)) (L.2.2.2.1 30 (by decide) (by decide))⟩⟩)
  intro r s' r' t' e1 e2
  exact key r s' r' t' (by rw [e1]; rfl) e2
theorem snow_az {s t : Sg} (H : NowG 27 s t) (T : TlRz 0 s t) (D : DyEz s t) {K : Int} (G : GnR (t.1 1) K) {g : Int32} (hg : 0 ≤ g.toInt ∧ g.toInt ≤ 99) : RQ (f_X2_letSnow_25_53 g s) (bd (f_X12_snows g t) (fun _ s23 => some ((1 : Int32), s23))) (fun _ s' r' t' => ActPz K t s' r' t') := by
  have B := bdk_of H
  have key : RQ (bd (f_X2_letSnow_25_53 g s) (fun r s => some (r, s))) (bd (f_X12_snows g t) (fun _ s23 => some ((1 : Int32), s23))) (fun _ s' r' t' => ActPz K t s' r' t') := by
    refine rq_b2 (rq_a (snows_rz H g) (fy_X2_letSnow_25_53 g s) (pq_and (kl_snows (w := true) B g BIG 0 0 t rfl (by decide) kl_r) (gn_snows g (by omega) BIG 0 0 t rfl (by decide) G B.1))) (fun r s4 r' t4 q => rq_s ?_)
    obtain ⟨q1, F, L, G4⟩ := q
    exact ⟨⟨⟨q1, dye_kz D (F 53 6 rfl).1 (L.1 rfl), G4⟩, kd_l L⟩, Or.inl ⟨rfl, tl_kz T (fun k k1 k2 => (F 5 k (by
      have : k = 2 ∨ k = 3 ∨ k = 4 ∨ k = 5 ∨ k = 6 ∨ k = 7 := by omega
      rcases this with z | z | z | z | z | z <;> subst z <;> rfl)).1) (L.2.2.1 11 (by decide) (by decide)) (L.2.2.2.1 29 (by decide) (by decide)) (L.2.2.2.1 30 (by decide) (by decide))⟩⟩
  intro r s' r' t' e1 e2
  exact key r s' r' t' (by rw [e1]; rfl) e2
theorem ov_n {s t : Sg} (H : NowG 0 s t) {i : Nat} (hi : i < 32) (h : (t.1 1 1).toInt ≤ (i : Int)) : bt (s.1 26 5) i = false := by
  have w := H.1.2.2
  rw [w.2.2 i hi]
  exact decide_eq_false (fun y => by
    have u := w.2.1 i y.1 h
    rw [u] at y
    exact absurd y.2 (by decide))
theorem night_a {s t : Sg} (H : NowG 0 s t) (T : TlR 0 s t) (D : DyE s t) {K : Int} (hK : 9999 ≤ K ∧ K ≤ 900000000) (G : GnR (t.1 1) K) : RQ (f_X3_tryNight_25_26 s) (if (t.1 1 4) = 999 then some ((0 : Int32), t) else bd (f_X12_nightGoes t) (fun _ s25 => nmx (pI s25 11 2 ((s25.1 11 2) + (s25.1 0 25))) (fun s26 => nmx (pI s26 11 3 ((s26.1 11 3) + (s26.1 0 26))) (fun s27 => some (1, s27))))) (fun _ s' r' t' => ActP (K + 400) t s' r' t') := by
  have c999 : (999 : Int32).toInt = 999 := rfl
  have e1 : (1 : Int32).toInt = 1 := rfl
  have B := bdk_of H
  obtain ⟨D1, D2, D3⟩ := D
  unfold f_X3_tryNight_25_26
  rw [D1]
  refine rq_iC (fun c => rq_iM (fun z => ?_) (fun _ => ?_)) (fun c => rq_iM (fun _ => rq_s ?_) (fun z => ?_))
  · rw [z] at c
    exact absurd c (by decide)
  · have c := i_lt c
    refine rq_b2 (rq_a (night_r H) (fy_X2_passNight_25 s) (pq_and (kl_night B) (gn_night hK B (fun c hc => (H.2.2.1.2.1 c hc).1) G))) (fun _ s2 _ t2 q => ?_)
    obtain ⟨⟨N1, N2, N3, N4, N5⟩, F, L, G2⟩ := q
    have e4 : ∀ k, 2 ≤ k → k ≤ 7 → s2.1 4 k = s.1 4 k := fun k k1 k2 => (F 4 k (by
      have : k = 2 ∨ k = 3 ∨ k = 4 ∨ k = 5 ∨ k = 6 ∨ k = 7 := by omega
      rcases this with z | z | z | z | z | z <;> subst z <;> rfl)).1
    obtain ⟨U1, U2, U3, U4, U5, U6⟩ := tl_k T e4 (L.2.2.1 11 (by decide) (by decide)) (L.2.2.2.1 29 (by decide) (by decide)) (L.2.2.2.1 30 (by decide) (by decide))
    have q1 : t2.1 1 1 = t.1 1 1 := L.2.1 1 (plq (plp_0 (by omega)))
    have bQ := B.2.1
    have o1 : ∀ i : Nat, i < 32 → (t.1 1 1).toInt ≤ (i : Int) → bt (s.1 26 5) i = false := fun i hi h => ov_n H hi h
    have o2 : ∀ i : Nat, i < 32 → (t.1 1 1).toInt ≤ (i : Int) → bt (s2.1 26 5) i = false := fun i hi h => ov_n N1 hi (by rw [q1]; exact h)
    have w1 : ∀ x y : Int32, (∀ i : Nat, i < 32 → (t.1 1 1).toInt ≤ (i : Int) → bt x i = false) → bcV (x &&& (y ^^^ (-1))) = cntI (fun q => bt x q && !bt y q) (t.1 1 1).toInt.toNat := fun x y hx => by
      rw [bc_v (fun i hi h8 => by rw [bt_and, hx i hi (by omega), Bool.false_and])]
      rw [cnt_x (Q := (t.1 1 1).toInt.toNat) 8 (by omega) (fun q h1 h2 => by rw [bt_and, hx q (by omega) (by omega), Bool.false_and])]
      exact cnt_c _ (fun q hq => by rw [bt_and, bt_not _ (by omega)])
    refine rq_bC (bc_p _ s2) (fun r3 s4 e => ?_)
    obtain ⟨es, e3⟩ := e
    rw [es]
    have k5 : (pI s2 4 6 ((s2.1 4 6) + r3)).1 26 5 = s2.1 26 5 := by rw [pI_o _ _ _ _ _ (by decide)]
    rw [k5]
    refine rq_bC (bc_p _ _) (fun r5 s6 e => ?_)
    obtain ⟨es, e5⟩ := e
    rw [es]
    refine rq_nC (fun s7 f7 => rq_nM (fun t3 g3 => rq_nM (fun t5 g5 => rq_s ?_)))
    have a3 : r3 = t2.1 0 25 := by
      rw [e3, w1 _ _ o2, N4]
      exact cnt_c _ (fun q _ => by cases bt (s.1 26 5) q <;> cases bt (s2.1 26 5) q <;> rfl)
    have a5 : r5 = t2.1 0 26 := by rw [e5, w1 _ _ o1, N5]
    have k7 : s7 = pI (pI s2 4 6 ((s2.1 4 6) + r3)) 4 7 ((s2.1 4 7) + r5) := by rw [f7, pI_1 s2 4 6 _ 4 7, if_neg (by decide)]
    have k5' : t5 = pI (pI t2 11 2 ((t2.1 11 2) + (t2.1 0 25))) 11 3 ((t2.1 11 3) + (t2.1 0 26)) := by rw [g5, g3, pI_1 t2 11 2 _ 11 3, if_neg (by decide), pI_o t2 11 2 _ 0 (by decide)]
    have sc : ∀ k, s7.1 4 k = if k = 7 then (s2.1 4 7) + r5 else if k = 6 then (s2.1 4 6) + r3 else s2.1 4 k := fun k => by
      rw [k7, pI_1]
      by_cases z : k = 7
      · rw [if_pos ⟨rfl, z⟩, if_pos z]
      · rw [if_neg (fun y => z y.2), if_neg z, pI_1]
        by_cases z2 : k = 6
        · rw [if_pos ⟨rfl, z2⟩, if_pos z2]
        · rw [if_neg (fun y => z2 y.2), if_neg z2]
    have tc : ∀ k, t5.1 11 k = if k = 3 then (t2.1 11 3) + (t2.1 0 26) else if k = 2 then (t2.1 11 2) + (t2.1 0 25) else t2.1 11 k := fun k => by
      rw [k5', pI_1]
      by_cases z : k = 3
      · rw [if_pos ⟨rfl, z⟩, if_pos z]
      · rw [if_neg (fun y => z y.2), if_neg z, pI_1]
        by_cases z2 : k = 2
        · rw [if_pos ⟨rfl, z2⟩, if_pos z2]
        · rw [if_neg (fun y => z2 y.2), if_neg z2]
    have so : ∀ c, ¬ c = 4 → s7.1 c = s2.1 c := fun c hc => by rw [k7, pI_o _ _ _ _ _ hc, pI_o _ _ _ _ _ hc]
    have to : ∀ c, ¬ c = 11 → t5.1 c = t2.1 c := fun c hc => by rw [k5', pI_o _ _ _ _ _ hc, pI_o _ _ _ _ _ hc]
    refine ⟨⟨⟨?_, ⟨?_, ?_, ?_⟩, ?_⟩, ?_⟩, Or.inl ⟨rfl, ?_⟩⟩
    · exact ng_k N1 (fun c hc => so c (by omega)) (fun k hk => by rw [to 1 (by decide)]) (by rw [to 0 (by decide)])
    · rw [so 26 (by decide), to 1 (by decide), N2, N3, D1]
      have ea : (t.1 1 4 + 1).toInt = (t.1 1 4).toInt + 1 := i_addx _ _ (by omega)
      by_cases z : t.1 1 4 + 1 < 999
      · rw [if_pos z]
      · rw [if_neg z]
        have := i_nlt z
        exact Int32.toInt_inj.mp (by omega)
    · rw [to 1 (by decide), N3, i_addx _ _ (by omega)]
      omega
    · rw [to 1 (by decide), N3, i_addx _ _ (by omega)]
      omega
    · rw [to 1 (by decide)]
      exact G2
    · rw [k5']
      exact kd_11 (kd_11 (kd_l L))
    · unfold TlR
      rw [sc 2, sc 3, sc 4, sc 5, sc 6, sc 7, tc 0, tc 1, tc 2, tc 3, to 0 (by decide)]
      refine ⟨U1, U2, U3, U4, ?_, ?_⟩
      · show (s2.1 4 6) + r3 = (t2.1 11 2) + (t2.1 0 25)
        rw [U5, a3]
      · show (s2.1 4 7) + r5 = (t2.1 11 3) + (t2.1 0 26)
        rw [U6, a5]
  · exact ⟨⟨⟨ng_k H (fun c hc => pI_o _ _ _ _ _ (by omega)) (fun k hk => rfl) rfl, dye_k ⟨D1, D2, D3⟩ (by rw [pI_o _ _ _ _ _ (by decide)]) rfl, gn_up G (by omega)⟩, kd_l (kl_r (w := true))⟩, Or.inr ⟨rfl, tl_m T⟩⟩
  · have := i_nlt c
    exact absurd (Int32.toInt_inj.mp (by omega)) z
theorem ov_nz {s t : Sg} (H : NowG 27 s t) {i : Nat} (hi : i < 32) (h : (t.1 1 1).toInt ≤ (i : Int)) : bt (s.1 53 5) i = false := by
  have w := H.1.2.2
  rw [w.2.2 i hi]
  exact decide_eq_false (fun y => by
    have u := w.2.1 i y.1 h
    rw [u] at y
    exact absurd y.2 (by decide))
theorem night_az {s t : Sg} (H : NowG 27 s t) (T : TlRz 0 s t) (D : DyEz s t) {K : Int} (hK : 9999 ≤ K ∧ K ≤ 900000000) (G : GnR (t.1 1) K) : RQ (f_X3_tryNight_25_53_5 s) (if (t.1 1 4) = 999 then some ((0 : Int32), t) else bd (f_X12_nightGoes t) (fun _ s25 => nmx (pI s25 11 2 ((s25.1 11 2) + (s25.1 0 25))) (fun s26 => nmx (pI s26 11 3 ((s26.1 11 3) + (s26.1 0 26))) (fun s27 => some (1, s27))))) (fun _ s' r' t' => ActPz (K + 400) t s' r' t') := by
  have c999 : (999 : Int32).toInt = 999 := rfl
  have e1 : (1 : Int32).toInt = 1 := rfl
  have B := bdk_of H
  obtain ⟨D1, D2, D3⟩ := D
  unfold f_X3_tryNight_25_53_5
  rw [D1]
  refine rq_iC (fun c => rq_iM (fun z => ?_) (fun _ => ?_)) (fun c => rq_iM (fun _ => rq_s ?_) (fun z => ?_))
  · rw [z] at c
    exact absurd c (by decide)
  · have c := i_lt c
    refine rq_b2 (rq_a (night_rz H) (fy_X2_passNight_25_53 s) (pq_and (kl_night B) (gn_night hK B (fun c hc => (H.2.2.1.2.1 c hc).1) G))) (fun _ s2 _ t2 q => ?_)
    obtain ⟨⟨N1, N2, N3, N4, N5⟩, F, L, G2⟩ := q
    have e4 : ∀ k, 2 ≤ k → k ≤ 7 → s2.1 5 k = s.1 5 k := fun k k1 k2 => (F 5 k (by
      have : k = 2 ∨ k = 3 ∨ k = 4 ∨ k = 5 ∨ k = 6 ∨ k = 7 := by omega
      rcases this with z | z | z | z | z | z <;> subst z <;> rfl)).1
    obtain ⟨U1, U2, U3, U4, U5, U6⟩ := tl_kz T e4 (L.2.2.1 11 (by decide) (by decide)) (L.2.2.2.1 29 (by decide) (by decide)) (L.2.2.2.1 30 (by decide) (by decide))
    have q1 : t2.1 1 1 = t.1 1 1 := L.2.1 1 (plq (plp_0 (by omega)))
    have bQ := B.2.1
    have o1 : ∀ i : Nat, i < 32 → (t.1 1 1).toInt ≤ (i : Int) → bt (s.1 53 5) i = false := fun i hi h => ov_nz H hi h
    have o2 : ∀ i : Nat, i < 32 → (t.1 1 1).toInt ≤ (i : Int) → bt (s2.1 53 5) i = false := fun i hi h => ov_nz N1 hi (by rw [q1]; exact h)
    have w1 : ∀ x y : Int32, (∀ i : Nat, i < 32 → (t.1 1 1).toInt ≤ (i : Int) → bt x i = false) → bcV (x &&& (y ^^^ (-1))) = cntI (fun q => bt x q && !bt y q) (t.1 1 1).toInt.toNat := fun x y hx => by
      rw [bc_v (fun i hi h8 => by rw [bt_and, hx i hi (by omega), Bool.false_and])]
      rw [cnt_x (Q := (t.1 1 1).toInt.toNat) 8 (by omega) (fun q h1 h2 => by rw [bt_and, hx q (by omega) (by omega), Bool.false_and])]
      exact cnt_c _ (fun q hq => by rw [bt_and, bt_not _ (by omega)])
    refine rq_bC (bc_p _ s2) (fun r3 s4 e => ?_)
    obtain ⟨es, e3⟩ := e
    rw [es]
    have k5 : (pI s2 5 6 ((s2.1 5 6) + r3)).1 53 5 = s2.1 53 5 := by rw [pI_o _ _ _ _ _ (by decide)]
    rw [k5]
    refine rq_bC (bc_p _ _) (fun r5 s6 e => ?_)
    obtain ⟨es, e5⟩ := e
    rw [es]
    refine rq_nC (fun s7 f7 => rq_nM (fun t3 g3 => rq_nM (fun t5 g5 => rq_s ?_)))
    have a3 : r3 = t2.1 0 25 := by
      rw [e3, w1 _ _ o2, N4]
      exact cnt_c _ (fun q _ => by cases bt (s.1 53 5) q <;> cases bt (s2.1 53 5) q <;> rfl)
    have a5 : r5 = t2.1 0 26 := by rw [e5, w1 _ _ o1, N5]
    have k7 : s7 = pI (pI s2 5 6 ((s2.1 5 6) + r3)) 5 7 ((s2.1 5 7) + r5) := by rw [f7, pI_1 s2 5 6 _ 5 7, if_neg (by decide)]
    have k5' : t5 = pI (pI t2 11 2 ((t2.1 11 2) + (t2.1 0 25))) 11 3 ((t2.1 11 3) + (t2.1 0 26)) := by rw [g5, g3, pI_1 t2 11 2 _ 11 3, if_neg (by decide), pI_o t2 11 2 _ 0 (by decide)]
    have sc : ∀ k, s7.1 5 k = if k = 7 then (s2.1 5 7) + r5 else if k = 6 then (s2.1 5 6) + r3 else s2.1 5 k := fun k => by
      rw [k7, pI_1]
      by_cases z : k = 7
      · rw [if_pos ⟨rfl, z⟩, if_pos z]
      · rw [if_neg (fun y => z y.2), if_neg z, pI_1]
        by_cases z2 : k = 6
        · rw [if_pos ⟨rfl, z2⟩, if_pos z2]
        · rw [if_neg (fun y => z2 y.2), if_neg z2]
    have tc : ∀ k, t5.1 11 k = if k = 3 then (t2.1 11 3) + (t2.1 0 26) else if k = 2 then (t2.1 11 2) + (t2.1 0 25) else t2.1 11 k := fun k => by
      rw [k5', pI_1]
      by_cases z : k = 3
      · rw [if_pos ⟨rfl, z⟩, if_pos z]
      · rw [if_neg (fun y => z y.2), if_neg z, pI_1]
        by_cases z2 : k = 2
        · rw [if_pos ⟨rfl, z2⟩, if_pos z2]
        · rw [if_neg (fun y => z2 y.2), if_neg z2]
    have so : ∀ c, ¬ c = 5 → s7.1 c = s2.1 c := fun c hc => by rw [k7, pI_o _ _ _ _ _ hc, pI_o _ _ _ _ _ hc]
    have to : ∀ c, ¬ c = 11 → t5.1 c = t2.1 c := fun c hc => by rw [k5', pI_o _ _ _ _ _ hc, pI_o _ _ _ _ _ hc]
    refine ⟨⟨⟨?_, ⟨?_, ?_, ?_⟩, ?_⟩, ?_⟩, Or.inl ⟨rfl, ?_⟩⟩
    · exact ng_k N1 (fun c hc => so c (by omega)) (fun k hk => by rw [to 1 (by decide)]) (by rw [to 0 (by decide)])
    · rw [so 53 (by decide), to 1 (by decide), N2, N3, D1]
      have ea : (t.1 1 4 + 1).toInt = (t.1 1 4).toInt + 1 := i_addx _ _ (by omega)
      by_cases z : t.1 1 4 + 1 < 999
      · rw [if_pos z]
      · rw [if_neg z]
        have := i_nlt z
        exact Int32.toInt_inj.mp (by omega)
    · rw [to 1 (by decide), N3, i_addx _ _ (by omega)]
      omega
    · rw [to 1 (by decide), N3, i_addx _ _ (by omega)]
      omega
    · rw [to 1 (by decide)]
      exact G2
    · rw [k5']
      exact kd_11 (kd_11 (kd_l L))
    · unfold TlRz
      rw [sc 2, sc 3, sc 4, sc 5, sc 6, sc 7, tc 0, tc 1, tc 2, tc 3, to 0 (by decide)]
      refine ⟨U1, U2, U3, U4, ?_, ?_⟩
      · show (s2.1 5 6) + r3 = (t2.1 11 2) + (t2.1 0 25)
        rw [U5, a3]
      · show (s2.1 5 7) + r5 = (t2.1 11 3) + (t2.1 0 26)
        rw [U6, a5]
  · exact ⟨⟨⟨ng_k H (fun c hc => pI_o _ _ _ _ _ (by omega)) (fun k hk => rfl) rfl, dye_kz ⟨D1, D2, D3⟩ (by rw [pI_o _ _ _ _ _ (by decide)]) rfl, gn_up G (by omega)⟩, kd_l (kl_r (w := true))⟩, Or.inr ⟨rfl, tl_mz T⟩⟩
  · have := i_nlt c
    exact absurd (Int32.toInt_inj.mp (by omega)) z
