/-! plans: the one in use and the marks' ones, on both sides -/
def WpR (o : Nat) (s : Sg) (M : Nat → Int32) (mm : Nat → Int64) : Prop := PlnR (24 + o) s M ∧ PlB M ∧ NmsR (24 + o) s mm M
theorem wp_x {o o' : Nat} {s s' : Sg} {M M' : Nat → Int32} {mm mm' : Nat → Int64} (h : WpR o s M mm) (hs : ∀ i k, (i = 1 ∨ (4 ≤ i ∧ i ≤ 15)) → loW i ≤ k → k < hiW i → s'.1 (24 + o' + i) k = s.1 (24 + o + i) k) (hl : ∀ k, k < 24 → s'.2 (24 + o' + 4) k = s.2 (24 + o + 4) k) (hM : ∀ k, PlP k → M' k = M k) (hm : ∀ k, k < 24 → mm' k = mm k) : WpR o' s' M' mm' := by
  obtain ⟨hp, hb, hn⟩ := h
  have bb := hp.2.1
  refine ⟨pln_g hp (fun k k1 k2 => hs 1 k (Or.inl rfl) (by show 12 ≤ k; omega) (by show k < 20; omega)) (fun i k i1 i2 hk => hs i k (by omega) ?_ ?_) hM, plb_g hb ⟨bb.2.1.2, bb.2.2.1.2, bb.2.2.2.2⟩ hM, nms_cp hn bb (hs 1 12 (Or.inl rfl) (by decide) (by decide)) hl (fun k hk => hs 5 k (by decide) (Nat.zero_le _) hk) (fun k hk => hs 6 k (by decide) (Nat.zero_le _) hk) (fun k hk => hM k (plp_0 (Or.inl hk))) hm⟩
  · unfold loW
    rw [if_neg (by omega), if_neg (by omega), if_neg (by omega)]
    exact Nat.zero_le _
  · unfold hiW
    rw [if_neg (by omega), if_neg (by omega), if_neg (by omega), if_neg (by omega), if_neg (by omega), if_neg (by omega)]
    by_cases z : i ≤ 10
    · rw [if_pos z] at hk ⊢
      exact hk
    · rw [if_neg z] at hk
      rw [if_neg z, if_pos (by omega)]
      exact hk
theorem plp_lt {k : Nat} (h : PlP k) : k < 110 ∧ ¬ k = 11 := by
  rcases h with z | z | z | z | ⟨q', z, z'⟩ | ⟨c', z, z'⟩ | ⟨g', z, z'⟩ <;> omega
def MkR (s t : Sg) : Prop := ∀ j : Nat, (j : Int) < (t.1 0 35).toInt → WpR (54 + 27 * j) s (fun k => t.1 1 (480 * (j + 1) + k)) (fun k => t.2 2 (24 * (j + 1) + k))
def WmR (s t : Sg) : Prop := (WpR 0 s (t.1 1) (t.2 2) ∧ t.1 0 24 = -1) ∧ MkR s t
abbrev MWP : Nat := 356735702584187783952494583683486961092263936
abbrev MWQ : Nat := 356735702584187783952494583683485861815517184
abbrev MPW : Nat := 2535301207538891634590286348294
abbrev MPX : Nat := 2535301200456494831790425374724
theorem and_b {L M b : Nat} (e : L &&& M = 0) (h : M.testBit b = true) : L.testBit b = false := by
  have x : (L &&& M).testBit b = false := by rw [e]; exact Nat.zero_testBit _
  rw [Nat.testBit_and, h, Bool.and_true] at x
  exact x
/-- cells of the class's plans kept -/
def PcK (s s' : Sg) : Prop := ∀ c, ((c = 25 ∨ (28 ≤ c ∧ c ≤ 39)) ∨ (c = 79 ∨ (82 ≤ c ∧ c ≤ 93)) ∨ (c = 106 ∨ (109 ≤ c ∧ c ≤ 120)) ∨ (c = 133 ∨ (136 ≤ c ∧ c ≤ 147))) → s'.1 c = s.1 c ∧ s'.2 c = s.2 c
set_option maxRecDepth 20000 in
theorem mwp_b : ∀ c, c < 148 → ((c = 25 ∨ (28 ≤ c ∧ c ≤ 39)) ∨ (c = 79 ∨ (82 ≤ c ∧ c ≤ 93)) ∨ (c = 106 ∨ (109 ≤ c ∧ c ≤ 120)) ∨ (c = 133 ∨ (136 ≤ c ∧ c ≤ 147))) → MWP.testBit c = true := by decide +kernel
theorem pck_f {L : Nat} {s s' : Sg} (f : Fr cC L s s') (e : L &&& MWP = 0) : PcK s s' := fun c hc => by
  have b : ∀ k, L.testBit (cC c k) = false := fun k => by
    rw [cC_id c k (by omega) (by omega) (by omega) (by omega) (by omega)]
    exact and_b e (mwp_b c (by omega) hc)
  exact ⟨funext fun k => (f c k (b k)).1, funext fun k => (f c k (b k)).2⟩
def PcM (s s' : Sg) : Prop := ∀ c, ((c = 79 ∨ (82 ≤ c ∧ c ≤ 93)) ∨ (c = 106 ∨ (109 ≤ c ∧ c ≤ 120)) ∨ (c = 133 ∨ (136 ≤ c ∧ c ≤ 147))) → s'.1 c = s.1 c ∧ s'.2 c = s.2 c
theorem pcm_k {s s' : Sg} (h : PcK s s') : PcM s s' := fun c hc => h c (Or.inr hc)
set_option maxRecDepth 20000 in
theorem mwq_b : ∀ c, c < 148 → ((c = 79 ∨ (82 ≤ c ∧ c ≤ 93)) ∨ (c = 106 ∨ (109 ≤ c ∧ c ≤ 120)) ∨ (c = 133 ∨ (136 ≤ c ∧ c ≤ 147))) → MWQ.testBit c = true := by decide +kernel
theorem pcm_f {L : Nat} {s s' : Sg} (f : Fr cC L s s') (e : L &&& MWQ = 0) : PcM s s' := fun c hc => by
  have b : ∀ k, L.testBit (cC c k) = false := fun k => by
    rw [cC_id c k (by omega) (by omega) (by omega) (by omega) (by omega)]
    exact and_b e (mwq_b c (by omega) hc)
  exact ⟨funext fun k => (f c k (b k)).1, funext fun k => (f c k (b k)).2⟩
/-- the reference's plan in use kept -/
def PmK (t t' : Sg) : Prop := (∀ k, PlP k → t'.1 1 k = t.1 1 k) ∧ (∀ k, k < 24 → t'.2 2 k = t.2 2 k) ∧ t'.1 0 24 = t.1 0 24
/-- and its marks -/
def PnK (t t' : Sg) : Prop := (∀ p, 480 ≤ p → p < 1920 → t'.1 1 p = t.1 1 p) ∧ (∀ k, 24 ≤ k → k < 96 → t'.2 2 k = t.2 2 k) ∧ t'.1 0 35 = t.1 0 35
theorem cd_lo {p : Nat} (h : p < 13) : cdM 1 p = 60 + p := by rw [cdM_x, if_pos h]
theorem cd_mi {p : Nat} (h : 13 ≤ p) (h2 : p < 110) : cdM 1 p = 1 := by rw [cdM_x, if_neg (by omega), if_pos h2]
theorem cd_mk {p : Nat} (h : 480 ≤ p) (h2 : p < 1920) : cdM 1 p = 101 := by rw [cdM_x, if_neg (by omega), if_neg (by omega), if_neg (by omega), if_pos h2]
theorem pm_b : ∀ p, p < 13 → ¬ p = 11 → MPW.testBit (60 + p) = true := by decide
theorem fm_2 {L : Nat} {t t' : Sg} (f : Fr cdM L t t') (e : L.testBit 2 = false) (k : Nat) : t'.2 2 k = t.2 2 k := fr_e2 f 2 k 2 rfl e
theorem pmk_f {L : Nat} {t t' : Sg} (f : Fr cdM L t t') (e : L &&& MPW = 0) (h : L.testBit 44 = false) : PmK t t' := by
  refine ⟨fun k hk => ?_, fun k _ => fm_2 f (and_b e (by decide)) k, fr_e f 0 24 44 rfl h⟩
  have w := plp_lt hk
  by_cases z : k < 13
  · exact fr_e f 1 k (60 + k) (cd_lo z) (and_b e (pm_b k z w.2))
  · exact fr_e f 1 k 1 (cd_mi (by omega) w.1) (and_b e (by decide))
theorem pnk_f {L : Nat} {t t' : Sg} (f : Fr cdM L t t') (e : L &&& MPX = 0) : PnK t t' :=
  ⟨fun p h1 h2 => fr_e f 1 p 101 (cd_mk h1 h2) (and_b e (by decide)), fun k _ _ => fm_2 f (and_b e (by decide)) k, fr_e f 0 35 55 rfl (and_b e (by decide))⟩
theorem wp_pk {o : Nat} {s s' : Sg} {M M' : Nat → Int32} {mm mm' : Nat → Int64} (h : WpR o s M mm) (ho : o = 0 ∨ o = 54 ∨ o = 81 ∨ o = 108) (c : PcK s s') (hM : ∀ k, PlP k → M' k = M k) (hm : ∀ k, k < 24 → mm' k = mm k) : WpR o s' M' mm' :=
  wp_x h (fun i k hi _ _ => by rw [(c (24 + o + i) (by omega)).1]) (fun k _ => by rw [(c (24 + o + 4) (by omega)).2]) hM hm
theorem mk_pk {s t s' t' : Sg} (r : (t.1 0 35).toInt ≤ 3) (h : MkR s t) (c : PcM s s') (m : PnK t t') : MkR s' t' := fun j hj => by
  rw [m.2.2] at hj
  have w : j = 0 ∨ j = 1 ∨ j = 2 := by omega
  refine wp_x (h j hj) (fun i k hi _ _ => by rw [(c (24 + (54 + 27 * j) + i) (by omega)).1]) (fun k _ => by rw [(c (24 + (54 + 27 * j) + 4) (by omega)).2]) (fun k hk => m.1 _ (by omega) (by have := (plp_lt hk).1; omega)) (fun k hk => m.2.1 _ (by omega) (by omega))
/-- both kept -/
theorem wm_k {s t s' t' : Sg} (r : (t.1 0 35).toInt ≤ 3) (h : WmR s t) (c : PcK s s') (m : PmK t t') (n : PnK t t') : WmR s' t' :=
  ⟨⟨wp_pk h.1.1 (Or.inl rfl) c m.1 m.2.1, m.2.2.trans h.1.2⟩, mk_pk r h.2 (pcm_k c) n⟩
/-! marks -/
theorem inr_b {i : Int32} {n : Nat} (h : inr i n) : 0 ≤ i.toInt ∧ i.toInt < (n : Int) := by
  have a : ¬ i < 0 := fun z => h (Or.inl z)
  have b : ¬ n ≤ i.toNatClampNeg := fun z => h (Or.inr z)
  have a := i_nlt a
  have c := cl_nat i
  have e0 : (0 : Int32).toInt = 0 := rfl
  omega
def CpX (b d : Nat) (s s9 : Sg) : Prop := (∀ c, ¬ c = 0 → ¬ (d + 1 ≤ c ∧ c ≤ d + 26) → s9.1 c = s.1 c ∧ s9.2 c = s.2 c) ∧ (∀ i k, 1 ≤ i → i ≤ 26 → loW i ≤ k → k < hiW i → s9.1 (d + i) k = s.1 (b + i) k) ∧ (∀ k, k < 24 → s9.2 (d + 4) k = s.2 (b + 4) k)
theorem cpx_w {b d : Nat} {s0 s s3 s9 : Sg} (w : CpW b d s s3) (hs : ∀ c, ¬ c = 0 → s.1 c = s0.1 c) (hs2 : s.2 = s0.2) (e : ∀ c, ¬ c = 0 → s9.1 c = s3.1 c) (e2 : s9.2 = s3.2) : CpX b d s0 s9 :=
  ⟨fun c h0 h => ⟨by rw [e c h0, (w.1 c h).1, hs c h0], by rw [e2, (w.1 c h).2, hs2]⟩, fun i k i1 i2 k1 k2 => by rw [e _ (by omega), w.2.1 i k i1 i2 k1 k2, hs _ (by omega)], fun k hk => by rw [e2, w.2.2 k hk, hs2]⟩
def McW (s s9 : Sg) : Prop := (¬ (s.1 0 14).toInt < 3 ∧ ∀ c, ¬ c = 0 → s9.1 c = s.1 c ∧ s9.2 c = s.2 c) ∨ ∃ j : Nat, j < 3 ∧ (s.1 0 14).toInt = (j : Int) ∧ CpX 24 (78 + 27 * j) s s9
theorem mark_w (s : Sg) : PQ (f_X11_mark s) (fun _ s9 => McW s s9) := by
  have e3 : (3 : Int32).toInt = 3 := rfl
  have z0 : (0 : Int32).toInt = 0 := rfl
  have z1 : (1 : Int32).toInt = 1 := rfl
  have fin : ∀ (j : Nat) (s3 : Sg), j < 3 → (s.1 0 14).toInt = (j : Int) → CpW 24 (78 + 27 * j) s s3 → PQ (bd (f_X11_answer ((pI s3 0 14 ((s3.1 0 14) + 1)).1 0 14) (pI s3 0 14 ((s3.1 0 14) + 1))) (fun r s => some (r, s))) (fun _ s9 => McW s s9) := fun j s3 hj hk w => by
    have q : PQ (some ((pI s3 0 14 ((s3.1 0 14) + 1)).1 0 14, pI (pI s3 0 14 ((s3.1 0 14) + 1)) 0 15 0)) (fun _ s9 => McW s s9) := pq_s (Or.inr ⟨j, hj, hk, cpx_w w (fun _ _ => rfl) rfl (fun c hc => by rw [pI_o _ _ _ _ _ hc, pI_o _ _ _ _ _ hc]) rfl⟩)
    exact q
  unfold f_X11_mark
  refine pq_if (fun c => pq_c (fun ir => ?_)) (fun c => ?_)
  · have c := i_lt c
    have ir := inr_b ir
    unfold sel3
    refine pq_if (fun d => pq_b (cw_X10_copyFrom_24_78 s) (fun _ s3 w => fin 0 s3 (by decide) ?_ w)) (fun d => pq_if (fun f => pq_b (cw_X10_copyFrom_24_105 s) (fun _ s3 w => fin 1 s3 (by decide) ?_ w)) (fun f => pq_b (cw_X10_copyFrom_24_132 s) (fun _ s3 w => fin 2 s3 (by decide) ?_ w)))
    · rw [d]; rfl
    · rw [f]; rfl
    · have n0 : ¬ (s.1 0 14).toInt = 0 := fun z => d (Int32.toInt_inj.mp (z.trans (show (0 : Int) = (nI 0).toInt from rfl)))
      have n1 : ¬ (s.1 0 14).toInt = 1 := fun z => f (Int32.toInt_inj.mp (z.trans (show (1 : Int) = (nI 1).toInt from rfl)))
      omega
  · have c := i_nlt c
    have q : PQ (some ((-1 : Int32), pI s 0 15 4)) (fun _ s9 => McW s s9) := pq_s (Or.inl ⟨by omega, fun c hc => ⟨pI_o _ _ _ _ _ hc, rfl⟩⟩)
    exact q
def BcW (s s9 : Sg) : Prop := (¬ 0 < (s.1 0 14).toInt ∧ ∀ c, ¬ c = 0 → s9.1 c = s.1 c ∧ s9.2 c = s.2 c) ∨ ∃ j : Nat, j < 3 ∧ (s.1 0 14).toInt = (j : Int) + 1 ∧ CpX (78 + 27 * j) 24 s s9
theorem back_w (s : Sg) : PQ (f_X11_back s) (fun _ s9 => BcW s s9) := by
  have e0 : (0 : Int32).toInt = 0 := rfl
  have e1 : (1 : Int32).toInt = 1 := rfl
  have fin : ∀ (j : Nat) (s3 : Sg), j < 3 → (s.1 0 14).toInt = (j : Int) + 1 → CpW (78 + 27 * j) 24 (pI s 0 14 ((s.1 0 14) - 1)) s3 → PQ (bd (f_X11_answer (s3.1 0 14) s3) (fun r s => some (r, s))) (fun _ s9 => BcW s s9) := fun j s3 hj hk w => by
    have q : PQ (some (s3.1 0 14, pI s3 0 15 0)) (fun _ s9 => BcW s s9) := pq_s (Or.inr ⟨j, hj, hk, cpx_w w (fun c hc => pI_o _ _ _ _ _ hc) rfl (fun c hc => pI_o _ _ _ _ _ hc) rfl⟩)
    exact q
  unfold f_X11_back
  refine pq_if (fun c => pq_c (fun ir => ?_)) (fun c => ?_)
  · have c := i_lt c
    rw [q_eq] at ir ⊢
    have sb := i_sub (s.1 0 14) 1
    have rg := i_rg (s.1 0 14)
    have ir := inr_b ir
    unfold sel3
    refine pq_if (fun d => pq_b (cw_X10_copyFrom_78 _) (fun _ s3 w => fin 0 s3 (by decide) ?_ w)) (fun d => pq_if (fun f => pq_b (cw_X10_copyFrom_105 _) (fun _ s3 w => fin 1 s3 (by decide) ?_ w)) (fun f => pq_b (cw_X10_copyFrom_132 _) (fun _ s3 w => fin 2 s3 (by decide) ?_ w)))
    · have d : ((s.1 0 14) - 1).toInt = 0 := by rw [d]; rfl
      omega
    · have f : ((s.1 0 14) - 1).toInt = 1 := by rw [f]; rfl
      omega
    · have n0 : ¬ ((s.1 0 14) - 1).toInt = 0 := fun z => d (Int32.toInt_inj.mp (z.trans (show (0 : Int) = (nI 0).toInt from rfl)))
      have n1 : ¬ ((s.1 0 14) - 1).toInt = 1 := fun z => f (Int32.toInt_inj.mp (z.trans (show (1 : Int) = (nI 1).toInt from rfl)))
      omega
  · have c := i_nlt c
    have q : PQ (some ((-1 : Int32), pI s 0 15 6)) (fun _ s9 => BcW s s9) := pq_s (Or.inl ⟨by omega, fun c hc => ⟨pI_o _ _ _ _ _ hc, rfl⟩⟩)
    exact q
def MmW (t t9 : Sg) : Prop := ((t.1 0 35).toInt = 3 ∧ t9.1 1 = t.1 1 ∧ t9.2 = t.2 ∧ t9.1 0 35 = t.1 0 35 ∧ t9.1 0 24 = t.1 0 24) ∨ ∃ j : Nat, j < 3 ∧ (t.1 0 35).toInt = (j : Int) ∧ (t9.1 0 35).toInt = (j : Int) + 1 ∧ t9.1 0 24 = t.1 0 24 ∧ CpJ (480 * 0) (480 * (j + 1)) 480 (t.1 1) (t9.1 1) ∧ CpJ (24 * 0) (24 * (j + 1)) 24 (t.2 2) (t9.2 2)
theorem mark_wm (t : Sg) (r : 0 ≤ (t.1 0 35).toInt ∧ (t.1 0 35).toInt ≤ 3) : PQ (f_X12_mark t) (fun _ t9 => MmW t t9) := by
  have e3 : (3 : Int32).toInt = 3 := rfl
  have e1 : (1 : Int32).toInt = 1 := rfl
  have e0 : (0 : Int32).toInt = 0 := rfl
  unfold f_X12_mark
  refine pq_if (fun c => ?_) (fun c => ?_)
  · have c := i_eq c
    have q : PQ (some ((-1 : Int32), pI t 0 2 4)) (fun _ t9 => MmW t t9) := pq_s (Or.inl ⟨by omega, pI_o _ _ _ _ _ (by decide), rfl, q_ne rfl, q_ne rfl⟩)
    exact q
  · have c := i_ne c
    rw [q_eq]
    have a1 : ((t.1 0 35) + 1).toInt = (t.1 0 35).toInt + 1 := i_addx _ _ (by omega)
    have hj : (t.1 0 35).toInt = ((t.1 0 35).toInt.toNat : Int) := by omega
    refine pq_b (copies_m 0 ((t.1 0 35) + 1) 0 ((t.1 0 35).toInt.toNat + 1) rfl (by omega) (by decide) (by omega) (by omega) _) (fun _ t4 m => ?_)
    have q : PQ (some (t4.1 0 35, pI t4 0 2 0)) (fun _ t9 => MmW t t9) := by
      refine pq_s (Or.inr ⟨(t.1 0 35).toInt.toNat, by omega, hj, ?_, ?_, ?_, ?_⟩)
      · rw [q_ne rfl, m.2.2.1 0 (by decide), q_eq]
        omega
      · rw [q_ne rfl, m.2.2.1 0 (by decide), q_ne rfl]
      · rw [pI_o _ _ _ _ _ (by decide)]
        have x := m.1
        rw [pI_o _ _ _ _ _ (by decide)] at x
        exact x
      · exact m.2.1
    exact q
def BmW (t t9 : Sg) : Prop := ((t.1 0 35).toInt = 0 ∧ t9.1 1 = t.1 1 ∧ t9.2 = t.2 ∧ t9.1 0 35 = t.1 0 35 ∧ t9.1 0 24 = t.1 0 24) ∨ ∃ j : Nat, j < 3 ∧ (t.1 0 35).toInt = (j : Int) + 1 ∧ (t9.1 0 35).toInt = (j : Int) ∧ t9.1 0 24 = t.1 0 24 ∧ CpJ (480 * (j + 1)) (480 * 0) 480 (t.1 1) (t9.1 1) ∧ CpJ (24 * (j + 1)) (24 * 0) 24 (t.2 2) (t9.2 2)
theorem back_wm (t : Sg) (r : 0 ≤ (t.1 0 35).toInt ∧ (t.1 0 35).toInt ≤ 3) : PQ (f_X12_back t) (fun _ t9 => BmW t t9) := by
  have e1 : (1 : Int32).toInt = 1 := rfl
  have e0 : (0 : Int32).toInt = 0 := rfl
  unfold f_X12_back
  refine pq_if (fun c => ?_) (fun c => ?_)
  · have c := i_eq c
    have q : PQ (some ((-1 : Int32), pI t 0 2 6)) (fun _ t9 => BmW t t9) := pq_s (Or.inl ⟨by omega, pI_o _ _ _ _ _ (by decide), rfl, q_ne rfl, q_ne rfl⟩)
    exact q
  · have c := i_ne c
    have hj : (t.1 0 35).toInt = (((t.1 0 35).toInt.toNat - 1 + 1 : Nat) : Int) := by omega
    refine pq_b (copies_m (t.1 0 35) 0 ((t.1 0 35).toInt.toNat - 1 + 1) 0 hj rfl (by omega) (by decide) (by omega) t) (fun _ t4 m => ?_)
    have e35 : t4.1 0 35 = t.1 0 35 := by rw [m.2.2.1 0 (by decide)]
    have sb := i_sub (t.1 0 35) 1
    have rg := i_rg (t.1 0 35)
    have q : PQ (some ((pI t4 0 35 ((t4.1 0 35) - 1)).1 0 35, pI (pI t4 0 35 ((t4.1 0 35) - 1)) 0 2 0)) (fun _ t9 => BmW t t9) := by
      refine pq_s (Or.inr ⟨(t.1 0 35).toInt.toNat - 1, by omega, by omega, ?_, ?_, ?_, ?_⟩)
      · rw [q_ne rfl, q_eq, e35]
        omega
      · rw [q_ne rfl, q_ne rfl, m.2.2.1 0 (by decide)]
      · rw [pI_o _ _ _ _ _ (by decide), pI_o _ _ _ _ _ (by decide)]
        exact m.1
      · exact m.2.1
    exact q
theorem wm_mark {s t s' t' : Sg} (r : 0 ≤ (t.1 0 35).toInt ∧ (t.1 0 35).toInt ≤ 3) (h : WmR s t) (e14 : s.1 0 14 = t.1 0 35) (c : McW s s') (m : MmW t t') : WmR s' t' := by
  rw [McW, e14] at c
  rcases c with ⟨c1, c2⟩ | ⟨j, j3, c1, c2⟩ <;> rcases m with ⟨m1, m2, m3, m4, m5⟩ | ⟨i, i3, m1, m2, m3, m4, m5⟩
  · refine wm_k r.2 h (fun c hc => c2 c (by omega)) ⟨fun k _ => by rw [m2], fun k _ => by rw [m3], m5⟩ ⟨fun k _ _ => by rw [m2], fun k _ _ => by rw [m3], m4⟩
  · omega
  · omega
  · have ij : i = j := by omega
    subst ij
    refine ⟨⟨wp_x h.1.1 (fun x k hx _ _ => by rw [(c2.1 (24 + 0 + x) (by omega) (by omega)).1]) (fun k _ => by rw [(c2.1 (24 + 0 + 4) (by omega) (by omega)).2]) (fun k hk => m4.2 k (by have := (plp_lt hk).1; omega)) (fun k hk => m5.2 k (by omega)), m3.trans h.1.2⟩, fun j hj => ?_⟩
    by_cases z : j = i
    · subst z
      refine wp_x h.1.1 (fun x k hx k1 k2 => ?_) (fun k hk => ?_) (fun k hk => ?_) (fun k hk => ?_)
      · have w := c2.2.1 x k (by omega) (by omega) k1 k2
        rw [show 24 + (54 + 27 * j) + x = 78 + 27 * j + x by omega]
        exact w
      · have w := c2.2.2 k hk
        rw [show 24 + (54 + 27 * j) + 4 = 78 + 27 * j + 4 by omega]
        exact w
      · have w := m4.1 k (by have := (plp_lt hk).1; omega)
        rw [show 480 * 0 + k = k by omega] at w
        exact w
      · have w := m5.1 k hk
        rw [show 24 * 0 + k = k by omega] at w
        exact w
    · refine wp_x (h.2 j (by omega)) (fun x k hx _ _ => by rw [(c2.1 (24 + (54 + 27 * j) + x) (by omega) (by omega)).1]) (fun k _ => by rw [(c2.1 (24 + (54 + 27 * j) + 4) (by omega) (by omega)).2]) (fun k hk => m4.2 _ (by have := (plp_lt hk).1; omega)) (fun k hk => m5.2 _ (by omega))
theorem wm_back {s t s' t' : Sg} (r : 0 ≤ (t.1 0 35).toInt ∧ (t.1 0 35).toInt ≤ 3) (h : WmR s t) (e14 : s.1 0 14 = t.1 0 35) (c : BcW s s') (m : BmW t t') : WmR s' t' := by
  rw [BcW, e14] at c
  rcases c with ⟨c1, c2⟩ | ⟨j, j3, c1, c2⟩ <;> rcases m with ⟨m1, m2, m3, m4, m5⟩ | ⟨i, i3, m1, m2, m3, m4, m5⟩
  · refine wm_k r.2 h (fun c hc => c2 c (by omega)) ⟨fun k _ => by rw [m2], fun k _ => by rw [m3], m5⟩ ⟨fun k _ _ => by rw [m2], fun k _ _ => by rw [m3], m4⟩
  · omega
  · omega
  · have ij : i = j := by omega
    subst ij
    refine ⟨⟨wp_x (h.2 i (by omega)) (fun x k hx k1 k2 => ?_) (fun k hk => ?_) (fun k hk => ?_) (fun k hk => ?_), m3.trans h.1.2⟩, fun j hj => ?_⟩
    · have w := c2.2.1 x k (by omega) (by omega) k1 k2
      rw [show 24 + (54 + 27 * i) + x = 78 + 27 * i + x by omega]
      exact w
    · have w := c2.2.2 k hk
      rw [show 24 + (54 + 27 * i) + 4 = 78 + 27 * i + 4 by omega]
      exact w
    · have w := m4.1 k (by have := (plp_lt hk).1; omega)
      rw [show 480 * 0 + k = k by omega] at w
      exact w
    · have w := m5.1 k hk
      rw [show 24 * 0 + k = k by omega] at w
      exact w
    · refine wp_x (h.2 j (by omega)) (fun x k hx _ _ => by rw [(c2.1 (24 + (54 + 27 * j) + x) (by omega) (by omega)).1]) (fun k _ => by rw [(c2.1 (24 + (54 + 27 * j) + 4) (by omega) (by omega)).2]) (fun k hk => m4.2 _ (by have := (plp_lt hk).1; omega)) (fun k hk => m5.2 _ (by omega))
/-! a street: what it leaves -/
theorem nm_31 {s0 : Sg} (m : Nat) : ∀ (v2 : Int32) (s : Sg), Rg rM s → NLp s0 s → PQ (f_X12_street_b31 m v2 s) (fun _ s9 => ∀ k, 24 ≤ k → k < 96 → s9.2 2 k = s0.2 2 k) := by
  induction m with
  | zero => intro v2 s _ _ r s' e; cases e
  | succ m ih =>
    intro v2 s hR h
    have fin : PQ (f_X12_street_b50 s) (fun _ s9 => ∀ k, 24 ≤ k → k < 96 → s9.2 2 k = s0.2 2 k) := by
      by_cases hz : s.1 0 18 = 0
      · refine pq_w (swx_50y s hz) (fun r s9 g k k1 k2 => ?_)
        obtain ⟨s', m, -, e⟩ := g
        rw [e]
        exact (m.2.1.2 k (by omega)).trans (h k k2)
      · unfold f_X12_street_b50
        rw [if_neg hz]
        refine pq_b (taken_p _ s) (fun r s9 g => pq_s (fun k k1 k2 => ?_))
        rcases g with g | g
        · rw [g.2.2]
          exact h k k2
        · rw [g.2.2]
          exact h k k2
    unfold f_X12_street_b31
    refine pq_if (fun _ => fin) (fun _ => pq_if (fun _ => fin) (fun _ => ?_))
    exact pq_b (pq_and (pq_o (h_X12_streetPart hR)) (nl_part (cnt_n hR) h)) (fun r s2 g => ih r s2 g.1.1.1 g.2)
set_option maxRecDepth 20000 in
theorem nm_street (a1 : Int32) {s : Sg} (hR : Rg rM s) : PQ (f_X12_street a1 s) (fun _ s9 => ∀ k, 24 ≤ k → k < 96 → s9.2 2 k = s.2 2 k) := by
  unfold f_X12_street
  refine pq_b (pq_and (pq_o (h_X12_begins a1 900 hR (by decide))) (ft_X12_begins a1 900 s)) (fun r s2 g => ?_)
  have n2 : s2.2 2 = s.2 2 := funext fun k => fr_e2 g.2 2 k 2 rfl rfl
  refine pq_if (fun _ => ?_) (fun _ => ?_)
  · have w : PQ (some ((-1 : Int32), pI s2 0 2 1)) (fun _ s9 => ∀ k, 24 ≤ k → k < 96 → s9.2 2 k = s.2 2 k) := pq_s (fun k _ _ => by show s2.2 2 k = _; rw [n2])
    exact w
  · refine pq_b (pq_and (pq_o (h_X12_plain 1920 g.1.1.1 (by decide))) (pln_p s2)) (fun _ s6 g6 => ?_)
    have R6 : Rg rM (pI s6 0 20 0) := (show JM 1099511627776 s6 (pI s6 0 20 0) from j_wr 0 3 (j_refl g6.1.1.1) rfl 40 rfl rfl (by decide)).1
    refine nm_31 BIG 1 (pI s6 0 20 0) R6 (fun p _ => ?_)
    show s6.2 2 p = _
    rw [g6.2.2.2.2, n2]
theorem wm_street {L : Nat} {s t s' t' : Sg} (r : (t.1 0 35).toInt ≤ 3) (h : WmR s t) (fc : Fr cC L s s') (hL : L &&& MWQ = 0) (kc : KpC0 s s') (km : KpM0 t t') (nm : ∀ k, 24 ≤ k → k < 96 → t'.2 2 k = t.2 2 k) (m1 : ∀ p, 480 ≤ p → p < 1920 → t'.1 1 p = t.1 1 p) (m35 : t'.1 0 35 = t.1 0 35) (m24 : t'.1 0 24 = t.1 0 24) (es : s'.1 0 15 = t'.1 0 2) (fr : s'.1 0 15 = 0 → FreshP s' t') : WmR s' t' := by
  refine ⟨⟨?_, m24.trans h.1.2⟩, mk_pk r h.2 (pcm_f fc hL) ⟨m1, nm, m35⟩⟩
  by_cases z : s'.1 0 15 = 0
  · have f := fr z
    exact ⟨f.1.1.1, f.1.2.2.1, f.2.2.1⟩
  · have c := kc.elim (fun y => absurd y z) id
    have m := km.elim (fun y => absurd (es.trans y) z) id
    exact wp_x h.1.1 (fun i k hi _ _ => by rw [(c (24 + 0 + i) (by omega)).1]) (fun k _ => by rw [(c (24 + 0 + 4) (by omega)).2]) (fun k hk => m.1 k (by have := (plp_lt hk).1; omega)) (fun k hk => m.2 k (by omega))
theorem pmk_24 {L : Nat} {t t' : Sg} (f : Fr cdM L t t') (e : L &&& MPW = 0) (h : t'.1 0 24 = t.1 0 24) : PmK t t' := by
  refine ⟨fun k hk => ?_, fun k _ => fm_2 f (and_b e (by decide)) k, h⟩
  have w := plp_lt hk
  by_cases z : k < 13
  · exact fr_e f 1 k (60 + k) (cd_lo z) (and_b e (pm_b k z w.2))
  · exact fr_e f 1 k 1 (cd_mi (by omega) w.1) (and_b e (by decide))
theorem fl_f {L L2 : Nat} {s t s' t' : Sg} (h : FlR s t) (f : Fr cC L s s') (g : Fr cdM L2 t t') (a : L.testBit 178 = false) (b : L.testBit 179 = false) (c : L2.testBit 36 = false) (d : L2.testBit 37 = false) : FlR s' t' := ⟨(fr_e f 0 18 178 rfl a).trans (h.1.trans (fr_e g 0 16 36 rfl c).symm), (fr_e f 0 19 179 rfl b).trans (h.2.trans (fr_e g 0 17 37 rfl d).symm)⟩
