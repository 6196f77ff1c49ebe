/-! a reader of the reference: no fault's place without a fault: printed by genN.py -/
abbrev MFV : Nat := 412316860416
def Fvz (s : Sg) : Prop := (s.1 0 18 = 0 → s.1 0 17 = -1) ∧ 0 ≤ (s.1 0 18).toInt
theorem mfv_b {L : Nat} (e : L &&& MFV = 0) : L.testBit 37 = false ∧ L.testBit 38 = false := by
  have h : ∀ b, MFV.testBit b = true → L.testBit b = false := fun b hb => by
    have x : (L &&& MFV).testBit b = false := by rw [e]; exact Nat.zero_testBit _
    rw [Nat.testBit_and, hb, Bool.and_true] at x
    exact x
  exact ⟨h 37 (by decide), h 38 (by decide)⟩
theorem fv_t {L : Nat} {s s' : Sg} (h : Fvz s) (g : Fr cdN L s s') (e : L &&& MFV = 0) : Fvz s' := by
  have b := mfv_b e
  exact ⟨fun z => (fr_e g 0 17 37 rfl b.1).trans (h.1 ((fr_e g 0 18 38 rfl b.2).symm.trans z)), by rw [fr_e g 0 18 38 rfl b.2]; exact h.2⟩
theorem fv_i {s : Sg} {c k : Nat} {v : Int32} (h : Fvz s) (m : Nat) (hm : cdN c k = m) (e : MFV.testBit m = false) : Fvz (pI s c k v) := by
  have n : ∀ j x, MFV.testBit x = true → cdN 0 j = x → (pI s c k v).1 0 j = s.1 0 j := fun j x y z => by
    rw [pI_1, if_neg (fun q => ?_)]
    rw [← q.1, ← q.2, z] at hm
    rw [hm, e] at y
    exact absurd y (by decide)
  unfold Fvz
  rw [n 18 38 (by decide) rfl, n 17 37 (by decide) rfl]
  exact h
theorem fv_l {s : Sg} {c k : Nat} {v : Int64} (h : Fvz s) (m : Nat) (_ : cdN c k = m) (_ : MFV.testBit m = false) : Fvz (pL s c k v) := h
theorem fv_X12_fails (a : Int32) {s : Sg} (ha : 0 < a.toInt) (h : Fvz s) : PQ (f_X12_fails a s) (fun _ s9 => Fvz s9) := by
  have w : ∀ (a x : Int32), 0 < a.toInt → Fvz (pI (pI s 0 18 a) 0 17 x) := fun a x y => by
    refine ⟨fun z => ?_, ?_⟩
    · rw [q_ne rfl, q_eq] at z
      rw [z] at y
      exact absurd y (by decide)
    · rw [q_ne rfl, q_eq]
      omega
  unfold f_X12_fails
  refine pq_if (fun _ => pq_if (fun _ => pq_n (fun x e => pq_s ?_)) (fun _ => pq_n (fun x e => pq_s ?_))) (fun _ => pq_s h)
  · rw [e]; exact w 1 _ (by decide)
  · rw [e]; exact w a _ ha
theorem fv_X12_newOne (a1 : Int32) (a2 : Int32) (a3 : Int32) {s : Sg} (hJ : Fvz s) : PQ (f_X12_newOne a1 a2 a3 s) (fun _ s9 => Fvz s9) := by
  unfold f_X12_newOne
  refine pq_c (fun _ => ?_)
  refine pq_if (fun _ => ?_) (fun _ => ?_)
  · refine pq_b ((fv_X12_fails _ (by decide) hJ)) (fun _ s3 gs3 => ?_)
    refine pq_c (fun _ => ?_)
    exact pq_s gs3
  · refine pq_b (ft_X12_ahead  _) (fun _ s5 gs5 => ?_)
    have js5 := fv_t hJ gs5 rfl
    refine pq_b (ft_X12_isName_1001  _) (fun _ s7 gs7 => ?_)
    have js7 := fv_t js5 gs7 rfl
    refine pq_if (fun _ => ?_) (fun _ => ?_)
    · refine pq_b ((fv_X12_fails _ (by decide) js7)) (fun _ s9 gs9 => ?_)
      refine pq_c (fun _ => ?_)
      exact pq_s gs9
    · refine pq_b (ft_X12_findHere _ _ _) (fun _ s11 gs11 => ?_)
      have js11 := fv_t js7 gs11 rfl
      refine pq_if (fun _ => ?_) (fun _ => ?_)
      · refine pq_b (ft_X12_findHere _ _ _) (fun _ s13 gs13 => ?_)
        have js13 := fv_t js11 gs13 rfl
        refine pq_if (fun _ => ?_) (fun _ => ?_)
        · refine pq_b (ft_X12_findHere _ _ _) (fun _ s15 gs15 => ?_)
          have js15 := fv_t js13 gs15 rfl
          refine pq_if (fun _ => ?_) (fun _ => ?_)
          · refine pq_b (ft_X12_findHere _ _ _) (fun _ s17 gs17 => ?_)
            have js17 := fv_t js15 gs17 rfl
            refine pq_if (fun _ => ?_) (fun _ => ?_)
            · refine pq_b (ft_X12_nameHere  _) (fun _ s19 gs19 => ?_)
              have js19 := fv_t js17 gs19 rfl
              refine pq_c (fun _ => ?_)
              refine pq_n (fun s21 es21 => ?_)
              have js21 : Fvz s21 := by rw [es21]; exact (fv_l js19 2 rfl rfl)
              refine pq_b (ft_X12_ahead  _) (fun _ s23 gs23 => ?_)
              have js23 := fv_t js21 gs23 rfl
              exact pq_s js23
            · refine pq_b ((fv_X12_fails _ (by decide) js17)) (fun _ s25 gs25 => ?_)
              refine pq_c (fun _ => ?_)
              exact pq_s gs25
          · refine pq_b ((fv_X12_fails _ (by decide) js15)) (fun _ s27 gs27 => ?_)
            refine pq_c (fun _ => ?_)
            exact pq_s gs27
        · refine pq_b ((fv_X12_fails _ (by decide) js13)) (fun _ s29 gs29 => ?_)
          refine pq_c (fun _ => ?_)
          exact pq_s gs29
      · refine pq_b ((fv_X12_fails _ (by decide) js11)) (fun _ s31 gs31 => ?_)
        refine pq_c (fun _ => ?_)
        exact pq_s gs31
theorem fv_X12_number (a1 : Int32) (a2 : Int32) (a3 : Int32) {s : Sg} (hJ : Fvz s) : PQ (f_X12_number a1 a2 a3 s) (fun _ s9 => Fvz s9) := by
  unfold f_X12_number
  refine pq_if (fun _ => ?_) (fun _ => ?_)
  · refine pq_if (fun _ => ?_) (fun _ => ?_)
    · refine pq_b ((fv_X12_fails _ (by decide) hJ)) (fun _ s2 gs2 => ?_)
      refine pq_c (fun _ => ?_)
      exact pq_s gs2
    · refine pq_if (fun _ => ?_) (fun _ => ?_)
      · refine pq_c (fun _ => ?_)
        refine pq_n (fun s4 es4 => ?_)
        have js4 : Fvz s4 := by rw [es4]; exact (fv_i hJ 1 rfl rfl)
        refine pq_b (ft_X12_ahead  _) (fun _ s6 gs6 => ?_)
        have js6 := fv_t js4 gs6 rfl
        exact pq_s js6
      · refine pq_b ((fv_X12_fails _ (by decide) hJ)) (fun _ s8 gs8 => ?_)
        refine pq_c (fun _ => ?_)
        exact pq_s gs8
  · refine pq_b ((fv_X12_fails _ (by decide) hJ)) (fun _ s10 gs10 => ?_)
    refine pq_c (fun _ => ?_)
    exact pq_s gs10
theorem fv_X12_aHouse_b144  (s : Sg) (hJ : Fvz s) : PQ (f_X12_aHouse_b144  s) (fun _ s9 => Fvz s9) := by
  unfold f_X12_aHouse_b144
  exact pq_s (fv_i hJ 1 rfl rfl)
theorem fv_X12_aHouse_b106 (v1 : Int32) (v3 : Int32) (s : Sg) (hJ : Fvz s) : PQ (f_X12_aHouse_b106 v1 v3 s) (fun _ s9 => Fvz s9) := by
  unfold f_X12_aHouse_b106
  refine pq_b (ft_X12_inWords_1001  _) (fun _ s11 gs11 => ?_)
  have js11 := fv_t hJ gs11 rfl
  refine pq_if (fun _ => ?_) (fun _ => ?_)
  · refine pq_if (fun _ => ?_) (fun _ => ?_)
    · refine pq_n (fun s12 es12 => ?_)
      have js12 : Fvz s12 := by rw [es12]; exact (fv_i js11 1 rfl rfl)
      refine pq_b (ft_X12_ahead  _) (fun _ s14 gs14 => ?_)
      have js14 := fv_t js12 gs14 rfl
      exact fv_X12_aHouse_b144  _ js14
    · refine pq_b ((fv_X12_fails _ (by decide) js11)) (fun _ s16 gs16 => ?_)
      refine pq_c (fun _ => ?_)
      exact pq_s gs16
  · exact fv_X12_aHouse_b144  _ js11
theorem fv_X12_aHouse_b81 (v1 : Int32) (v2 : Int32) (v3 : Int32) (s : Sg) (hJ : Fvz s) : PQ (f_X12_aHouse_b81 v1 v2 v3 s) (fun _ s9 => Fvz s9) := by
  unfold f_X12_aHouse_b81
  refine pq_b (ft_X12_isThere _ _) (fun _ s9 gs9 => ?_)
  have js9 := fv_t hJ gs9 rfl
  refine pq_if (fun _ => ?_) (fun _ => ?_)
  · exact fv_X12_aHouse_b106 _ _ _ js9
  · refine pq_b ((fv_X12_number _ _ _ js9)) (fun _ s18 gs18 => ?_)
    refine pq_if (fun _ => ?_) (fun _ => ?_)
    · exact pq_s gs18
    · exact fv_X12_aHouse_b106 _ _ _ gs18
theorem fv_X12_aHouse_b57 (v1 : Int32) (v2 : Int32) (t0 : Int32) (s : Sg) (hJ : Fvz s) : PQ (f_X12_aHouse_b57 v1 v2 t0 s) (fun _ s9 => Fvz s9) := by
  unfold f_X12_aHouse_b57
  refine pq_b (ft_X12_isThere _ _) (fun _ s7 gs7 => ?_)
  have js7 := fv_t hJ gs7 rfl
  refine pq_if (fun _ => ?_) (fun _ => ?_)
  · exact fv_X12_aHouse_b81 _ _ _ _ js7
  · refine pq_b ((fv_X12_number _ _ _ js7)) (fun _ s20 gs20 => ?_)
    refine pq_if (fun _ => ?_) (fun _ => ?_)
    · exact pq_s gs20
    · exact fv_X12_aHouse_b81 _ _ _ _ gs20
theorem fv_X12_aHouse_b52 (v1 : Int32) (v2 : Int32) (s : Sg) (hJ : Fvz s) : PQ (f_X12_aHouse_b52 v1 v2 s) (fun _ s9 => Fvz s9) := by
  unfold f_X12_aHouse_b52
  exact fv_X12_aHouse_b57 _ _ _ _ hJ
theorem fv_X12_aHouse  {s : Sg} (hJ : Fvz s) : PQ (f_X12_aHouse  s) (fun _ s9 => Fvz s9) := by
  unfold f_X12_aHouse
  refine pq_n (fun x1 _ => ?_)
  refine pq_b ((fv_X12_newOne _ _ _ hJ)) (fun _ s3 gs3 => ?_)
  refine pq_if (fun _ => ?_) (fun _ => ?_)
  · exact pq_s gs3
  · refine pq_b (ft_X12_inWords_1001  _) (fun _ s5 gs5 => ?_)
    have js5 := fv_t gs3 gs5 rfl
    refine pq_if (fun _ => ?_) (fun _ => ?_)
    · exact fv_X12_aHouse_b52 _ _ _ js5
    · refine pq_b (ft_X12_inWords_1001  _) (fun _ s22 gs22 => ?_)
      have js22 := fv_t js5 gs22 rfl
      refine pq_if (fun _ => ?_) (fun _ => ?_)
      · exact fv_X12_aHouse_b52 _ _ _ js22
      · exact fv_X12_aHouse_b57 _ _ _ _ js22
theorem fv_X12_wantSign (a1 : Int32) {s : Sg} (hJ : Fvz s) : PQ (f_X12_wantSign a1 s) (fun _ s9 => Fvz s9) := by
  unfold f_X12_wantSign
  refine pq_b (ft_X12_isSign _ _) (fun _ s2 gs2 => ?_)
  have js2 := fv_t hJ gs2 rfl
  refine pq_if (fun _ => ?_) (fun _ => ?_)
  · refine pq_b ((fv_X12_fails _ (by decide) js2)) (fun _ s4 gs4 => ?_)
    refine pq_c (fun _ => ?_)
    exact pq_s gs4
  · refine pq_b (ft_X12_ahead  _) (fun _ s6 gs6 => ?_)
    have js6 := fv_t js2 gs6 rfl
    exact pq_s js6
theorem fv_X12_wantWord_1001 (a2 : Int32) {s : Sg} (hJ : Fvz s) : PQ (f_X12_wantWord_1001 a2 s) (fun _ s9 => Fvz s9) := by
  unfold f_X12_wantWord_1001
  refine pq_b (ft_X12_inWords_1001  _) (fun _ s2 gs2 => ?_)
  have js2 := fv_t hJ gs2 rfl
  refine pq_if (fun _ => ?_) (fun _ => ?_)
  · refine pq_b (ft_X12_ahead  _) (fun _ s4 gs4 => ?_)
    have js4 := fv_t js2 gs4 rfl
    exact pq_s js4
  · refine pq_b ((fv_X12_fails _ (by decide) js2)) (fun _ s6 gs6 => ?_)
    refine pq_c (fun _ => ?_)
    exact pq_s gs6
theorem fv_X12_oldOne (a1 : Int32) (a2 : Int32) (a3 : Int32) {s : Sg} (hJ : Fvz s) : PQ (f_X12_oldOne a1 a2 a3 s) (fun _ s9 => Fvz s9) := by
  unfold f_X12_oldOne
  refine pq_b (ft_X12_isName_1001  _) (fun _ s2 gs2 => ?_)
  have js2 := fv_t hJ gs2 rfl
  refine pq_if (fun _ => ?_) (fun _ => ?_)
  · refine pq_b ((fv_X12_fails _ (by decide) js2)) (fun _ s4 gs4 => ?_)
    refine pq_c (fun _ => ?_)
    exact pq_s gs4
  · refine pq_b (ft_X12_findHere _ _ _) (fun _ s6 gs6 => ?_)
    have js6 := fv_t js2 gs6 rfl
    refine pq_c (fun _ => ?_)
    refine pq_if (fun _ => ?_) (fun _ => ?_)
    · refine pq_b ((fv_X12_fails _ (by decide) (fv_i js6 1 rfl rfl))) (fun _ s9 gs9 => ?_)
      refine pq_c (fun _ => ?_)
      exact pq_s gs9
    · refine pq_b (ft_X12_ahead  _) (fun _ s11 gs11 => ?_)
      have js11 := fv_t (fv_i js6 1 rfl rfl) gs11 rfl
      exact pq_s js11
theorem fv_X12_twoHouses_b65 (k_3 : Int32 → Int32 → Int32 → Int32 → Sg → Option (Int32 × Sg)) (hk_3 : ∀ (v1 : Int32) (v2 : Int32) (v3 : Int32) (v4 : Int32) (s : Sg), Fvz s → PQ (k_3 v1 v2 v3 v4 s) (fun _ s9 => Fvz s9)) (v1 : Int32) (v2 : Int32) (v3 : Int32) (v4 : Int32) (s : Sg) (hJ : Fvz s) : PQ (f_X12_twoHouses_b65 k_3 v1 v2 v3 v4 s) (fun _ s9 => Fvz s9) := by
  unfold f_X12_twoHouses_b65
  refine pq_b ((fv_X12_oldOne _ _ _ hJ)) (fun _ s4 gs4 => ?_)
  refine pq_if (fun _ => ?_) (fun _ => ?_)
  · exact pq_s gs4
  · refine pq_if (fun _ => ?_) (fun _ => ?_)
    · refine pq_b ((fv_X12_wantWord_1001 _ gs4)) (fun _ s6 gs6 => ?_)
      refine pq_if (fun _ => ?_) (fun _ => ?_)
      · exact pq_s gs6
      · exact hk_3 _ _ _ _ _ gs6
    · exact hk_3 _ _ _ _ _ gs4
theorem fv_X12_twoHouses_b42 (k_3 : Int32 → Int32 → Int32 → Int32 → Sg → Option (Int32 × Sg)) (hk_3 : ∀ (v1 : Int32) (v2 : Int32) (v3 : Int32) (v4 : Int32) (s : Sg), Fvz s → PQ (k_3 v1 v2 v3 v4 s) (fun _ s9 => Fvz s9)) (v1 : Int32) (v2 : Int32) (v3 : Int32) (v4 : Int32) (v5 : Int32) (s : Sg) (hJ : Fvz s) : PQ (f_X12_twoHouses_b42 k_3 v1 v2 v3 v4 v5 s) (fun _ s9 => Fvz s9) := by
  unfold f_X12_twoHouses_b42
  refine pq_if (fun _ => ?_) (fun _ => ?_)
  · refine pq_c (fun _ => ?_)
    refine pq_if (fun _ => ?_) (fun _ => ?_)
    · refine pq_b ((fv_X12_fails _ (by decide) hJ)) (fun _ s9 gs9 => ?_)
      refine pq_c (fun _ => ?_)
      exact pq_s gs9
    · exact fv_X12_twoHouses_b65 _ hk_3 _ _ _ _ _ hJ
  · exact fv_X12_twoHouses_b65 _ hk_3 _ _ _ _ _ hJ
theorem fv_X12_twoHouses_b3 (n : Nat) : ∀ (v1 : Int32) (v2 : Int32) (v3 : Int32) (v4 : Int32) (s : Sg), Fvz s → PQ (f_X12_twoHouses_b3 n v1 v2 v3 v4 s) (fun _ s9 => Fvz s9) := by
  induction n with
  | zero => intro v1 v2 v3 v4 s _ r s9 e; cases e
  | succ n ih =>
    intro v1 v2 v3 v4 s hJ
    unfold f_X12_twoHouses_b3
    refine pq_if (fun _ => ?_) (fun _ => ?_)
    · exact pq_s hJ
    · refine pq_b (ft_X12_houseHere  _) (fun _ s2 gs2 => ?_)
      have js2 := fv_t hJ gs2 rfl
      refine pq_if (fun _ => ?_) (fun _ => ?_)
      · exact fv_X12_twoHouses_b65 _ ih _ _ _ _ _ js2
      · refine pq_if (fun _ => ?_) (fun _ => ?_)
        · exact fv_X12_twoHouses_b42 _ ih _ _ _ _ _ _ js2
        · refine pq_if (fun _ => ?_) (fun _ => ?_)
          · refine pq_b ((fv_X12_fails _ (by decide) js2)) (fun _ s11 gs11 => ?_)
            refine pq_c (fun _ => ?_)
            exact pq_s gs11
          · exact fv_X12_twoHouses_b42 _ ih _ _ _ _ _ _ js2
theorem fv_X12_twoHouses (a1 : Int32) (a2 : Int32) (a3 : Int32) {s : Sg} (hJ : Fvz s) : PQ (f_X12_twoHouses a1 a2 a3 s) (fun _ s9 => Fvz s9) := by
  unfold f_X12_twoHouses
  exact fv_X12_twoHouses_b3 BIG _ _ _ _ _ hJ
theorem fv_X12_aQuarrel  {s : Sg} (hJ : Fvz s) : PQ (f_X12_aQuarrel  s) (fun _ s9 => Fvz s9) := by
  unfold f_X12_aQuarrel
  refine pq_n (fun x1 _ => ?_)
  refine pq_b ((fv_X12_newOne _ _ _ hJ)) (fun _ s3 gs3 => ?_)
  refine pq_if (fun _ => ?_) (fun _ => ?_)
  · exact pq_s gs3
  · refine pq_b ((fv_X12_wantWord_1001 _ gs3)) (fun _ s5 gs5 => ?_)
    refine pq_if (fun _ => ?_) (fun _ => ?_)
    · exact pq_s gs5
    · refine pq_b ((fv_X12_twoHouses _ _ _ gs5)) (fun _ s7 gs7 => ?_)
      refine pq_if (fun _ => ?_) (fun _ => ?_)
      · exact pq_s gs7
      · refine pq_b ((fv_X12_wantWord_1001 _ gs7)) (fun _ s9 gs9 => ?_)
        refine pq_if (fun _ => ?_) (fun _ => ?_)
        · exact pq_s gs9
        · refine pq_b ((fv_X12_number _ _ _ gs9)) (fun _ s11 gs11 => ?_)
          refine pq_if (fun _ => ?_) (fun _ => ?_)
          · exact pq_s gs11
          · refine pq_n (fun s12 es12 => ?_)
            have js12 : Fvz s12 := by rw [es12]; exact (fv_i gs11 1 rfl rfl)
            exact pq_s js12
theorem fv_X12_aCat  {s : Sg} (hJ : Fvz s) : PQ (f_X12_aCat  s) (fun _ s9 => Fvz s9) := by
  unfold f_X12_aCat
  refine pq_n (fun x1 _ => ?_)
  refine pq_b ((fv_X12_newOne _ _ _ hJ)) (fun _ s3 gs3 => ?_)
  refine pq_if (fun _ => ?_) (fun _ => ?_)
  · exact pq_s gs3
  · refine pq_b ((fv_X12_wantWord_1001 _ gs3)) (fun _ s5 gs5 => ?_)
    refine pq_if (fun _ => ?_) (fun _ => ?_)
    · exact pq_s gs5
    · refine pq_b ((fv_X12_twoHouses _ _ _ gs5)) (fun _ s7 gs7 => ?_)
      refine pq_if (fun _ => ?_) (fun _ => ?_)
      · exact pq_s gs7
      · refine pq_b ((fv_X12_wantWord_1001 _ gs7)) (fun _ s9 gs9 => ?_)
        refine pq_if (fun _ => ?_) (fun _ => ?_)
        · exact pq_s gs9
        · refine pq_b ((fv_X12_number _ _ _ gs9)) (fun _ s11 gs11 => ?_)
          refine pq_if (fun _ => ?_) (fun _ => ?_)
          · exact pq_s gs11
          · refine pq_n (fun s12 es12 => ?_)
            have js12 : Fvz s12 := by rw [es12]; exact (fv_i gs11 1 rfl rfl)
            exact pq_s js12
theorem fv_X12_aGrocer_b101  (s : Sg) (hJ : Fvz s) : PQ (f_X12_aGrocer_b101  s) (fun _ s9 => Fvz s9) := by
  unfold f_X12_aGrocer_b101
  exact pq_s (fv_i hJ 1 rfl rfl)
theorem fv_X12_aGrocer  {s : Sg} (hJ : Fvz s) : PQ (f_X12_aGrocer  s) (fun _ s9 => Fvz s9) := by
  unfold f_X12_aGrocer
  refine pq_n (fun x1 _ => ?_)
  refine pq_b ((fv_X12_newOne _ _ _ hJ)) (fun _ s3 gs3 => ?_)
  refine pq_if (fun _ => ?_) (fun _ => ?_)
  · exact pq_s gs3
  · refine pq_b ((fv_X12_wantWord_1001 _ gs3)) (fun _ s5 gs5 => ?_)
    refine pq_if (fun _ => ?_) (fun _ => ?_)
    · exact pq_s gs5
    · refine pq_b ((fv_X12_number _ _ _ gs5)) (fun _ s7 gs7 => ?_)
      refine pq_if (fun _ => ?_) (fun _ => ?_)
      · exact pq_s gs7
      · refine pq_b ((fv_X12_wantWord_1001 _ gs7)) (fun _ s9 gs9 => ?_)
        refine pq_if (fun _ => ?_) (fun _ => ?_)
        · exact pq_s gs9
        · refine pq_b ((fv_X12_number _ _ _ gs9)) (fun _ s11 gs11 => ?_)
          refine pq_if (fun _ => ?_) (fun _ => ?_)
          · exact pq_s gs11
          · refine pq_b (ft_X12_isThere _ _) (fun _ s13 gs13 => ?_)
            have js13 := fv_t gs11 gs13 rfl
            refine pq_if (fun _ => ?_) (fun _ => ?_)
            · exact fv_X12_aGrocer_b101  _ js13
            · refine pq_b ((fv_X12_number _ _ _ js13)) (fun _ s15 gs15 => ?_)
              refine pq_if (fun _ => ?_) (fun _ => ?_)
              · exact pq_s gs15
              · exact fv_X12_aGrocer_b101  _ gs15
theorem fv_X12_once (a1 : Int32) {s : Sg} (hJ : Fvz s) : PQ (f_X12_once a1 s) (fun _ s9 => Fvz s9) := by
  unfold f_X12_once
  refine pq_b (ft_X12_ahead  _) (fun _ s2 gs2 => ?_)
  have js2 := fv_t hJ gs2 rfl
  refine pq_b (ft_X12_inWords_1001  _) (fun _ s4 gs4 => ?_)
  have js4 := fv_t js2 gs4 rfl
  refine pq_if (fun _ => ?_) (fun _ => ?_)
  · refine pq_if (fun _ => ?_) (fun _ => ?_)
    · refine pq_b ((fv_X12_fails _ (by decide) js4)) (fun _ s6 gs6 => ?_)
      refine pq_c (fun _ => ?_)
      exact pq_s gs6
    · refine pq_n (fun s7 es7 => ?_)
      have js7 : Fvz s7 := by rw [es7]; exact (fv_i js4 40 rfl rfl)
      refine pq_b (ft_X12_ahead  _) (fun _ s9 gs9 => ?_)
      have js9 := fv_t js7 gs9 rfl
      refine pq_if (fun _ => ?_) (fun _ => ?_)
      · refine pq_b ((fv_X12_number _ _ _ js9)) (fun _ s11 gs11 => ?_)
        refine pq_c (fun _ => ?_)
        exact pq_s gs11
      · exact pq_s (fv_i js9 1 rfl rfl)
  · refine pq_b ((fv_X12_fails _ (by decide) js4)) (fun _ s13 gs13 => ?_)
    refine pq_c (fun _ => ?_)
    exact pq_s gs13
theorem fv_X12_streetPart_b102 (v1 : Int32) (s : Sg) (hJ : Fvz s) : PQ (f_X12_streetPart_b102 v1 s) (fun _ s9 => Fvz s9) := by
  unfold f_X12_streetPart_b102
  refine pq_if (fun _ => ?_) (fun _ => ?_)
  · exact pq_s hJ
  · refine pq_b ((fv_X12_wantSign _ hJ)) (fun _ s6 gs6 => ?_)
    refine pq_if (fun _ => ?_) (fun _ => ?_)
    · exact pq_s gs6
    · exact pq_s gs6
theorem fv_X12_streetPart  {s : Sg} (hJ : Fvz s) : PQ (f_X12_streetPart  s) (fun _ s9 => Fvz s9) := by
  unfold f_X12_streetPart
  refine pq_b (ft_X12_inWords_1001  _) (fun _ s2 gs2 => ?_)
  have js2 := fv_t hJ gs2 rfl
  refine pq_if (fun _ => ?_) (fun _ => ?_)
  · refine pq_b ((fv_X12_aHouse  js2)) (fun _ s4 gs4 => ?_)
    exact fv_X12_streetPart_b102 _ _ gs4
  · refine pq_if (fun _ => ?_) (fun _ => ?_)
    · refine pq_b ((fv_X12_aQuarrel  js2)) (fun _ s8 gs8 => ?_)
      exact fv_X12_streetPart_b102 _ _ gs8
    · refine pq_if (fun _ => ?_) (fun _ => ?_)
      · refine pq_b ((fv_X12_aCat  js2)) (fun _ s10 gs10 => ?_)
        exact fv_X12_streetPart_b102 _ _ gs10
      · refine pq_if (fun _ => ?_) (fun _ => ?_)
        · refine pq_b ((fv_X12_aGrocer  js2)) (fun _ s12 gs12 => ?_)
          exact fv_X12_streetPart_b102 _ _ gs12
        · refine pq_if (fun _ => ?_) (fun _ => ?_)
          · refine pq_b ((fv_X12_once _ js2)) (fun _ s14 gs14 => ?_)
            exact fv_X12_streetPart_b102 _ _ gs14
          · refine pq_if (fun _ => ?_) (fun _ => ?_)
            · refine pq_b ((fv_X12_once _ js2)) (fun _ s16 gs16 => ?_)
              exact fv_X12_streetPart_b102 _ _ gs16
            · refine pq_b ((fv_X12_fails _ (by decide) js2)) (fun _ s18 gs18 => ?_)
              refine pq_c (fun _ => ?_)
              exact pq_s gs18
theorem fv_X12_stepTo_b24 (v1 : Int32) (t0 : Int32) (s : Sg) (hJ : Fvz s) : PQ (f_X12_stepTo_b24 v1 t0 s) (fun _ s9 => Fvz s9) := by
  unfold f_X12_stepTo_b24
  refine pq_if (fun _ => ?_) (fun _ => ?_)
  · refine pq_b ((fv_X12_oldOne _ _ _ hJ)) (fun _ s4 gs4 => ?_)
    refine pq_c (fun _ => ?_)
    exact pq_s gs4
  · refine pq_b (ft_X12_isGone _ _) (fun _ s6 gs6 => ?_)
    have js6 := fv_t hJ gs6 rfl
    refine pq_if (fun _ => ?_) (fun _ => ?_)
    · refine pq_b ((fv_X12_oldOne _ _ _ js6)) (fun _ s8 gs8 => ?_)
      refine pq_c (fun _ => ?_)
      exact pq_s gs8
    · refine pq_b ((fv_X12_fails _ (by decide) js6)) (fun _ s10 gs10 => ?_)
      refine pq_c (fun _ => ?_)
      exact pq_s gs10
theorem fv_X12_stepTo (a1 : Int32) {s : Sg} (hJ : Fvz s) : PQ (f_X12_stepTo a1 s) (fun _ s9 => Fvz s9) := by
  unfold f_X12_stepTo
  refine pq_b (ft_X12_isName_1001  _) (fun _ s2 gs2 => ?_)
  have js2 := fv_t hJ gs2 rfl
  refine pq_if (fun _ => ?_) (fun _ => ?_)
  · exact fv_X12_stepTo_b24 _ _ _ js2
  · refine pq_b (ft_X12_findHere _ _ _) (fun _ s12 gs12 => ?_)
    have js12 := fv_t js2 gs12 rfl
    exact fv_X12_stepTo_b24 _ _ _ js12
theorem fv_X12_test_b101 (v1 : Int32) (s : Sg) (hJ : Fvz s) : PQ (f_X12_test_b101 v1 s) (fun _ s9 => Fvz s9) := by
  unfold f_X12_test_b101
  refine pq_c (fun _ => ?_)
  refine pq_n (fun s18 es18 => ?_)
  have js18 : Fvz s18 := by rw [es18]; exact (fv_i hJ 1 rfl rfl)
  refine pq_b (ft_X12_ahead  _) (fun _ s20 gs20 => ?_)
  have js20 := fv_t js18 gs20 rfl
  refine pq_b ((fv_X12_number _ _ _ js20)) (fun _ s22 gs22 => ?_)
  refine pq_c (fun _ => ?_)
  exact pq_s gs22
theorem fv_X12_test (a1 : Int32) {s : Sg} (hJ : Fvz s) : PQ (f_X12_test a1 s) (fun _ s9 => Fvz s9) := by
  unfold f_X12_test
  refine pq_b (ft_X12_inWords_1001  _) (fun _ s2 gs2 => ?_)
  have js2 := fv_t hJ gs2 rfl
  refine pq_if (fun _ => ?_) (fun _ => ?_)
  · refine pq_c (fun _ => ?_)
    refine pq_n (fun s4 es4 => ?_)
    have js4 : Fvz s4 := by rw [es4]; exact (fv_i js2 1 rfl rfl)
    refine pq_b (ft_X12_ahead  _) (fun _ s6 gs6 => ?_)
    have js6 := fv_t js4 gs6 rfl
    refine pq_if (fun _ => ?_) (fun _ => ?_)
    · refine pq_b ((fv_X12_stepTo _ js6)) (fun _ s8 gs8 => ?_)
      refine pq_if (fun _ => ?_) (fun _ => ?_)
      · exact pq_s gs8
      · refine pq_b (ft_X12_isSign _ _) (fun _ s10 gs10 => ?_)
        have js10 := fv_t gs8 gs10 rfl
        refine pq_if (fun _ => ?_) (fun _ => ?_)
        · refine pq_b (ft_X12_isSign _ _) (fun _ s12 gs12 => ?_)
          have js12 := fv_t js10 gs12 rfl
          refine pq_if (fun _ => ?_) (fun _ => ?_)
          · refine pq_b (ft_X12_isSign _ _) (fun _ s14 gs14 => ?_)
            have js14 := fv_t js12 gs14 rfl
            refine pq_if (fun _ => ?_) (fun _ => ?_)
            · refine pq_b ((fv_X12_fails _ (by decide) js14)) (fun _ s16 gs16 => ?_)
              refine pq_c (fun _ => ?_)
              exact pq_s gs16
            · exact fv_X12_test_b101 _ _ js14
          · exact fv_X12_test_b101 _ _ js12
        · exact fv_X12_test_b101 _ _ js10
    · refine pq_b ((fv_X12_oldOne _ _ _ js6)) (fun _ s24 gs24 => ?_)
      refine pq_c (fun _ => ?_)
      exact pq_s gs24
  · refine pq_b ((fv_X12_fails _ (by decide) js2)) (fun _ s26 gs26 => ?_)
    refine pq_c (fun _ => ?_)
    exact pq_s gs26
theorem fv_X12_dayOrder (a1 : Int32) (a2 : Int32) {s : Sg} (hJ : Fvz s) : PQ (f_X12_dayOrder a1 a2 s) (fun _ s9 => Fvz s9) := by
  unfold f_X12_dayOrder
  refine pq_if (fun _ => ?_) (fun _ => ?_)
  · refine pq_b ((fv_X12_number _ _ _ hJ)) (fun _ s2 gs2 => ?_)
    refine pq_c (fun _ => ?_)
    exact pq_s gs2
  · refine pq_if (fun _ => ?_) (fun _ => ?_)
    · exact pq_s hJ
    · refine pq_if (fun _ => ?_) (fun _ => ?_)
      · exact pq_s hJ
      · refine pq_if (fun _ => ?_) (fun _ => ?_)
        · exact pq_s hJ
        · refine pq_if (fun _ => ?_) (fun _ => ?_)
          · exact pq_s hJ
          · refine pq_if (fun _ => ?_) (fun _ => ?_)
            · exact pq_s hJ
            · refine pq_if (fun _ => ?_) (fun _ => ?_)
              · exact pq_s hJ
              · refine pq_if (fun _ => ?_) (fun _ => ?_)
                · exact pq_s hJ
                · refine pq_if (fun _ => ?_) (fun _ => ?_)
                  · exact pq_s hJ
                  · refine pq_if (fun _ => ?_) (fun _ => ?_)
                    · exact pq_s hJ
                    · refine pq_if (fun _ => ?_) (fun _ => ?_)
                      · exact pq_s hJ
                      · refine pq_if (fun _ => ?_) (fun _ => ?_)
                        · exact pq_s hJ
                        · refine pq_if (fun _ => ?_) (fun _ => ?_)
                          · exact pq_s hJ
                          · refine pq_if (fun _ => ?_) (fun _ => ?_)
                            · exact pq_s hJ
                            · refine pq_if (fun _ => ?_) (fun _ => ?_)
                              · exact pq_s hJ
                              · refine pq_if (fun _ => ?_) (fun _ => ?_)
                                · refine pq_b ((fv_X12_stepTo _ hJ)) (fun _ s4 gs4 => ?_)
                                  refine pq_if (fun _ => ?_) (fun _ => ?_)
                                  · exact pq_s gs4
                                  · refine pq_b ((fv_X12_number _ _ _ gs4)) (fun _ s6 gs6 => ?_)
                                    refine pq_if (fun _ => ?_) (fun _ => ?_)
                                    · exact pq_s gs6
                                    · exact pq_s gs6
                                · refine pq_if (fun _ => ?_) (fun _ => ?_)
                                  · refine pq_b ((fv_X12_oldOne _ _ _ hJ)) (fun _ s8 gs8 => ?_)
                                    refine pq_if (fun _ => ?_) (fun _ => ?_)
                                    · exact pq_s gs8
                                    · refine pq_b ((fv_X12_number _ _ _ gs8)) (fun _ s10 gs10 => ?_)
                                      refine pq_if (fun _ => ?_) (fun _ => ?_)
                                      · exact pq_s gs10
                                      · refine pq_b ((fv_X12_wantWord_1001 _ gs10)) (fun _ s12 gs12 => ?_)
                                        refine pq_if (fun _ => ?_) (fun _ => ?_)
                                        · exact pq_s gs12
                                        · refine pq_b ((fv_X12_stepTo _ gs12)) (fun _ s14 gs14 => ?_)
                                          refine pq_if (fun _ => ?_) (fun _ => ?_)
                                          · exact pq_s gs14
                                          · exact pq_s gs14
                                  · refine pq_if (fun _ => ?_) (fun _ => ?_)
                                    · refine pq_b ((fv_X12_stepTo _ hJ)) (fun _ s16 gs16 => ?_)
                                      refine pq_c (fun _ => ?_)
                                      exact pq_s gs16
                                    · refine pq_if (fun _ => ?_) (fun _ => ?_)
                                      · refine pq_b ((fv_X12_number _ _ _ hJ)) (fun _ s18 gs18 => ?_)
                                        refine pq_c (fun _ => ?_)
                                        exact pq_s gs18
                                      · refine pq_if (fun _ => ?_) (fun _ => ?_)
                                        · exact pq_s hJ
                                        · refine pq_if (fun _ => ?_) (fun _ => ?_)
                                          · refine pq_b ((fv_X12_test _ hJ)) (fun _ s20 gs20 => ?_)
                                            refine pq_c (fun _ => ?_)
                                            exact pq_s gs20
                                          · refine pq_if (fun _ => ?_) (fun _ => ?_)
                                            · refine pq_b ((fv_X12_number _ _ _ hJ)) (fun _ s22 gs22 => ?_)
                                              refine pq_c (fun _ => ?_)
                                              exact pq_s gs22
                                            · exact pq_s hJ
theorem fv_X12_dayStep_b227 (v1 : Int32) (v2 : Int32) (v3 : Int32) (s : Sg) (hJ : Fvz s) : PQ (f_X12_dayStep_b227 v1 v2 v3 s) (fun _ s9 => Fvz s9) := by
  unfold f_X12_dayStep_b227
  refine pq_if (fun _ => ?_) (fun _ => ?_)
  · refine pq_c (fun _ => ?_)
    refine pq_c (fun _ => ?_)
    refine pq_n (fun s14 es14 => ?_)
    have js14 : Fvz s14 := by rw [es14]; exact (fv_i (fv_i hJ 42 rfl rfl) 1 rfl rfl)
    refine pq_c (fun _ => ?_)
    refine pq_c (fun _ => ?_)
    refine pq_n (fun s17 es17 => ?_)
    have js17 : Fvz s17 := by rw [es17]; exact (fv_i js14 1 rfl rfl)
    refine pq_b ((fv_X12_wantSign _ js17)) (fun _ s19 gs19 => ?_)
    refine pq_c (fun _ => ?_)
    exact pq_s gs19
  · refine pq_b ((fv_X12_wantSign _ hJ)) (fun _ s21 gs21 => ?_)
    refine pq_c (fun _ => ?_)
    exact pq_s gs21
theorem fv_X12_dayStep_b152 (n : Nat) : ∀ (v1 : Int32) (v2 : Int32) (v3 : Int32) (v4 : Int32) (v5 : Int32) (s : Sg), Fvz s → PQ (f_X12_dayStep_b152 n v1 v2 v3 v4 v5 s) (fun _ s9 => Fvz s9) := by
  induction n with
  | zero => intro v1 v2 v3 v4 v5 s _ r s9 e; cases e
  | succ n ih =>
    intro v1 v2 v3 v4 v5 s hJ
    unfold f_X12_dayStep_b152
    refine pq_if (fun _ => ?_) (fun _ => ?_)
    · refine pq_b (ft_X12_ahead  _) (fun _ s9 gs9 => ?_)
      have js9 := fv_t (fv_i hJ 1 rfl rfl) gs9 rfl
      refine pq_b ((fv_X12_dayOrder _ _ js9)) (fun _ s11 gs11 => ?_)
      refine pq_if (fun _ => ?_) (fun _ => ?_)
      · exact pq_s gs11
      · refine pq_if (fun _ => ?_) (fun _ => ?_)
        · exact fv_X12_dayStep_b227 _ _ _ _ gs11
        · refine pq_c (fun _ => ?_)
          refine pq_n (fun s23 es23 => ?_)
          have js23 : Fvz s23 := by rw [es23]; exact (fv_i gs11 8 rfl rfl)
          exact fv_X12_dayStep_b227 _ _ _ _ (fv_i js23 42 rfl rfl)
    · refine pq_c (fun _ => ?_)
      refine pq_n (fun s25 es25 => ?_)
      have js25 : Fvz s25 := by rw [es25]; exact (fv_i hJ 1 rfl rfl)
      exact ih _ _ _ _ _ _ js25
theorem fv_X12_dayStep_b122 (v1 : Int32) (v2 : Int32) (v3 : Int32) (v4 : Int32) (s : Sg) (hJ : Fvz s) : PQ (f_X12_dayStep_b122 v1 v2 v3 v4 s) (fun _ s9 => Fvz s9) := by
  unfold f_X12_dayStep_b122
  refine pq_if (fun _ => ?_) (fun _ => ?_)
  · refine pq_c (fun _ => ?_)
    refine pq_n (fun s7 es7 => ?_)
    have js7 : Fvz s7 := by rw [es7]; exact (fv_i (fv_i hJ 43 rfl rfl) 1 rfl rfl)
    exact fv_X12_dayStep_b152 BIG _ _ _ _ _ _ js7
  · refine pq_c (fun _ => ?_)
    refine pq_n (fun s27 es27 => ?_)
    have js27 : Fvz s27 := by rw [es27]; exact (fv_i (fv_i hJ 43 rfl rfl) 1 rfl rfl)
    exact fv_X12_dayStep_b152 BIG _ _ _ _ _ _ js27
theorem fv_X12_dayStep_b102 (v1 : Int32) (v2 : Int32) (v3 : Int32) (v4 : Int32) (s : Sg) (hJ : Fvz s) : PQ (f_X12_dayStep_b102 v1 v2 v3 v4 s) (fun _ s9 => Fvz s9) := by
  unfold f_X12_dayStep_b102
  refine pq_if (fun _ => ?_) (fun _ => ?_)
  · exact fv_X12_dayStep_b122 _ _ _ _ _ hJ
  · refine pq_if (fun _ => ?_) (fun _ => ?_)
    · refine pq_b ((fv_X12_fails _ (by decide) hJ)) (fun _ s29 gs29 => ?_)
      refine pq_c (fun _ => ?_)
      exact pq_s gs29
    · exact fv_X12_dayStep_b122 _ _ _ _ _ hJ
theorem fv_X12_dayStep_b80 (v1 : Int32) (v2 : Int32) (v3 : Int32) (v4 : Int32) (s : Sg) (hJ : Fvz s) : PQ (f_X12_dayStep_b80 v1 v2 v3 v4 s) (fun _ s9 => Fvz s9) := by
  unfold f_X12_dayStep_b80
  refine pq_if (fun _ => ?_) (fun _ => ?_)
  · exact fv_X12_dayStep_b102 _ _ _ _ _ hJ
  · refine pq_if (fun _ => ?_) (fun _ => ?_)
    · refine pq_b ((fv_X12_fails _ (by decide) hJ)) (fun _ s31 gs31 => ?_)
      refine pq_c (fun _ => ?_)
      exact pq_s gs31
    · exact fv_X12_dayStep_b102 _ _ _ _ _ hJ
theorem fv_X12_dayStep_b61 (v1 : Int32) (v2 : Int32) (v3 : Int32) (v4 : Int32) (s : Sg) (hJ : Fvz s) : PQ (f_X12_dayStep_b61 v1 v2 v3 v4 s) (fun _ s9 => Fvz s9) := by
  unfold f_X12_dayStep_b61
  refine pq_if (fun _ => ?_) (fun _ => ?_)
  · refine pq_if (fun _ => ?_) (fun _ => ?_)
    · refine pq_b ((fv_X12_fails _ (by decide) hJ)) (fun _ s5 gs5 => ?_)
      refine pq_c (fun _ => ?_)
      exact pq_s gs5
    · exact fv_X12_dayStep_b80 _ _ _ _ _ hJ
  · exact fv_X12_dayStep_b80 _ _ _ _ _ hJ
theorem fv_X12_dayStep_b42 (v1 : Int32) (v2 : Int32) (v3 : Int32) (t0 : Int32) (s : Sg) (hJ : Fvz s) : PQ (f_X12_dayStep_b42 v1 v2 v3 t0 s) (fun _ s9 => Fvz s9) := by
  unfold f_X12_dayStep_b42
  refine pq_if (fun _ => ?_) (fun _ => ?_)
  · exact fv_X12_dayStep_b61 _ _ _ _ _ hJ
  · refine pq_if (fun _ => ?_) (fun _ => ?_)
    · refine pq_b ((fv_X12_fails _ (by decide) hJ)) (fun _ s33 gs33 => ?_)
      refine pq_c (fun _ => ?_)
      exact pq_s gs33
    · refine pq_if (fun _ => ?_) (fun _ => ?_)
      · refine pq_b ((fv_X12_fails _ (by decide) hJ)) (fun _ s35 gs35 => ?_)
        refine pq_c (fun _ => ?_)
        exact pq_s gs35
      · exact fv_X12_dayStep_b61 _ _ _ _ _ hJ
theorem fv_X12_dayStep_b37 (v1 : Int32) (v2 : Int32) (v3 : Int32) (s : Sg) (hJ : Fvz s) : PQ (f_X12_dayStep_b37 v1 v2 v3 s) (fun _ s9 => Fvz s9) := by
  unfold f_X12_dayStep_b37
  exact fv_X12_dayStep_b42 _ _ _ _ _ hJ
theorem fv_X12_dayStep  {s : Sg} (hJ : Fvz s) : PQ (f_X12_dayStep  s) (fun _ s9 => Fvz s9) := by
  unfold f_X12_dayStep
  refine pq_b (ft_X12_inWords_1001  _) (fun _ s2 gs2 => ?_)
  have js2 := fv_t hJ gs2 rfl
  refine pq_n (fun x3 _ => ?_)
  refine pq_if (fun _ => ?_) (fun _ => ?_)
  · exact fv_X12_dayStep_b37 _ _ _ _ js2
  · refine pq_if (fun _ => ?_) (fun _ => ?_)
    · exact fv_X12_dayStep_b37 _ _ _ _ js2
    · exact fv_X12_dayStep_b42 _ _ _ _ _ js2
