/-! texts: the reference's words -/
/-- the word that stands at the reference's token -/
def Wd (B : Nat → Int32) (n st en : Nat) (s : Sg) : Prop := TkM n s ∧ byM s = B ∧ (s.1 0 13).toInt = (st : Int) ∧ (s.1 0 14).toInt = (en : Int) ∧ st ≤ en ∧ en ≤ n
theorem flat_ne {K : List Int32} {r : List (List Int32)} : flatK (K :: r) ≠ [] := by
  unfold flatK
  intro h
  have := congrArg List.length h
  rw [List.length_append, List.length_cons] at this
  exact absurd this (by rw [List.length_nil]; omega)
theorem drop_g {S : List Int32} {a : Nat} {t : List Int32} (h : S.drop a = t) (i : Nat) : S.getD (a + i) 0 = t.getD i 0 := by
  rw [← h, List.getD_eq_getElem?_getD, List.getD_eq_getElem?_getD, List.getElem?_drop]
theorem app_l {K t : List Int32} {i : Nat} (h : i < K.length) : (K ++ t).getD i 0 = K.getD i 0 := by
  rw [List.getD_eq_getElem?_getD, List.getD_eq_getElem?_getD, List.getElem?_append_left h]
theorem app_m {K t : List Int32} : (K ++ (32 :: t)).getD K.length 0 = 32 := by
  rw [List.getD_eq_getElem?_getD, List.getElem?_append_right (Nat.le_refl _), Nat.sub_self]
  rfl
theorem iw_68p {Q : Int32 → Sg → Prop} (B : Nat → Int32) (n st en : Nat) (k14 : Int32 → Int32 → Sg → Option (Int32 × Sg)) (K t : List Int32) (v2 v3 v4 : Int32) (hw : ∀ s, Wd B n st en s → True) (h3 : 0 ≤ v3.toInt) (h4 : v4.toInt = v3.toInt + (K.length : Int)) (h5 : v4.toInt ≤ 167) (hd : (strB.getD 1 []).drop v3.toNatClampNeg = K ++ (32 :: t)) (s : Sg) (hs : Wd B n st en s) (hy : IsW B st (en - st) K → Q v2 s) (hno : ¬ IsW B st (en - st) K → PQ (k14 (v2 + 1) (v4 + 1) s) Q) (m : Nat) : ∀ (i : Nat) (v5 v6 : Int32), v6.toInt = v3.toInt + (i : Int) → i ≤ K.length → ((v5 = 1 ∧ en - st = K.length ∧ ∀ j, j < i → B (st + j) = K.getD j 0) ∨ (v5 = 0 ∧ ¬ IsW B st (en - st) K)) → PQ (f_X12_inWords_1001_b68 k14 m v2 v3 v4 v5 v6 s) Q := by
  have e0 : (0 : Int32).toInt = 0 := rfl
  have e1 : (1 : Int32).toInt = 1 := rfl
  have fin : ∀ (v5 : Int32), ((v5 = 1 ∧ IsW B st (en - st) K) ∨ (v5 = 0 ∧ ¬ IsW B st (en - st) K)) → PQ (f_X12_inWords_1001_b115 k14 v2 v4 v5 s) Q := by
    intro v5 h
    unfold f_X12_inWords_1001_b115
    refine pq_if (fun c => ?_) (fun c => ?_)
    · rcases h with q | q
      · exact absurd (q.1.symm.trans c) (by decide)
      · exact hno q.2
    · rcases h with q | q
      · exact pq_s (hy q.2)
      · exact absurd q.1 c
  induction m with
  | zero => intro i v5 v6 _ _ _ r s9 e; cases e
  | succ m ih =>
    intro i v5 v6 h6 hi h
    unfold f_X12_inWords_1001_b68
    refine pq_if (fun c => fin v5 ?_) (fun c => pq_if (fun c5 => fin v5 ?_) (fun c5 => pq_c (fun _ => ?_)))
    · have c := i_le c
      rcases h with q | q
      · exact Or.inl ⟨q.1, q.2.1, fun j hj => q.2.2 j (by omega)⟩
      · exact Or.inr q
    · rcases h with q | q
      · exact absurd (q.1.symm.trans c5) (by decide)
      · exact Or.inr q
    · have c := i_nle c
      have q := h.elim id (fun q => absurd q.1 c5)
      obtain ⟨hm, hb, h13, h14, hse, hen⟩ := hs
      have hn := hm.1
      have h9 := hm.2
      have cl6 := cl_nat v6
      have cl3 := cl_nat v3
      have a1 : ((s.1 0 13) + v6).toInt = (s.1 0 13).toInt + v6.toInt := i_addx _ _ (by omega)
      have a2 : (((s.1 0 13) + v6) - v3).toInt = (st : Int) + (i : Int) := by
        have := i_sub ((s.1 0 13) + v6) v3
        omega
      have a6 : (v6 + 1).toInt = v6.toInt + 1 := i_addx v6 1 (show -2147483648 ≤ v6.toInt + 1 ∧ v6.toInt + 1 ≤ 2147483647 from by omega)
      have clx := cl_nat (((s.1 0 13) + v6) - v3)
      have dx : (((s.1 0 13) + v6) - v3).toNatClampNeg = st + i := by omega
      have d6 : v6.toNatClampNeg = v3.toNatClampNeg + i := by omega
      have il : i < K.length := by omega
      have ch : (strB.getD 1 []).getD v6.toNatClampNeg 0 = K.getD i 0 := by
        rw [d6, drop_g hd i, app_l il]
      refine pq_b (by_p _ n hm (by omega)) (fun r1 s2 g => ?_)
      obtain ⟨es, g⟩ := g
      subst es
      rw [hb, dx] at g
      have gr : r1 = B (st + i) := by
        rcases g with w | w
        · omega
        · exact w.2
      rw [ch, gr]
      refine pq_if (fun ce => ih (i + 1) 1 (v6 + 1) (by omega) (by omega) (Or.inl ⟨rfl, q.2.1, fun j hj => ?_⟩)) (fun ce => ih (i + 1) 0 (v6 + 1) (by omega) (by omega) (Or.inr ⟨rfl, fun w => ce ?_⟩))
      · by_cases e : j = i
        · rw [e]; exact ce.symm
        · exact q.2.2 j (by omega)
      · exact (w.2 i (by omega)).symm
theorem iw_25p {Q : Int32 → Sg → Prop} (B : Nat → Int32) (n st en : Nat) (k14 : Int32 → Int32 → Sg → Option (Int32 × Sg)) (K t : List Int32) (hK : okK K = true) (v2 v3 : Int32) (h3 : 0 ≤ v3.toInt) (h5 : v3.toInt + (K.length : Int) ≤ 167) (hd : (strB.getD 1 []).drop v3.toNatClampNeg = K ++ (32 :: t)) (s : Sg) (hs : Wd B n st en s) (hy : IsW B st (en - st) K → Q v2 s) (hno : ∀ v4 : Int32, v4.toInt = v3.toInt + (K.length : Int) → ¬ IsW B st (en - st) K → PQ (k14 (v2 + 1) (v4 + 1) s) Q) (m : Nat) : ∀ (i : Nat) (v4 : Int32), v4.toInt = v3.toInt + (i : Int) → i ≤ K.length → PQ (f_X12_inWords_1001_b25 k14 m v2 v3 v4 s) Q := by
  induction m with
  | zero => intro i v4 _ _ r s9 e; cases e
  | succ m ih =>
    intro i v4 h4 hi
    have e1 : (1 : Int32).toInt = 1 := rfl
    have cl3 := cl_nat v3
    have cl4 := cl_nat v4
    have d4 : v4.toNatClampNeg = v3.toNatClampNeg + i := by omega
    have ch : (strB.getD 1 []).getD v4.toNatClampNeg 0 = (K ++ (32 :: t)).getD i 0 := by rw [d4, drop_g hd i]
    have a4 : (v4 + 1).toInt = v4.toInt + 1 := i_addx v4 1 (show -2147483648 ≤ v4.toInt + 1 ∧ v4.toInt + 1 ≤ 2147483647 from by omega)
    have sb := i_sub v4 v3
    have hs' := hs
    obtain ⟨hm, hb, h13, h14, hse, hen⟩ := hs'
    have hn := hm.1
    have h9 := hm.2
    have sb2 := i_sub (s.1 0 14) (s.1 0 13)
    unfold f_X12_inWords_1001_b25
    rw [ch]
    refine pq_c (fun _ => pq_if (fun c => ?_) (fun c => ih (i + 1) (v4 + 1) (by omega) ?_))
    · have iK : i = K.length := by
        by_cases q : i = K.length
        · exact q
        · exfalso
          have il : i < K.length := by omega
          rw [app_l il] at c
          have g := lets_K hK i (Nat.zero_le _) (by omega)
          rw [show (fun i => K.getD i 0) i = 32 from c] at g
          exact absurd g.1 (by decide)
      subst iK
      refine pq_if (fun ce => iw_68p B n st en k14 K t v2 v3 v4 (fun _ _ => trivial) h3 h4 (by omega) hd s hs hy (hno v4 h4) BIG 0 1 v3 (by omega) (Nat.zero_le _) (Or.inl ⟨rfl, ?_, fun j hj => absurd hj (Nat.not_lt_zero j)⟩)) (fun ce => iw_68p B n st en k14 K t v2 v3 v4 (fun _ _ => trivial) h3 h4 (by omega) hd s hs hy (hno v4 h4) BIG 0 0 v3 (by omega) (Nat.zero_le _) (Or.inr ⟨rfl, fun w => ?_⟩))
      · have ce := i_eq ce
        omega
      · have ce := i_ne ce
        have := w.1
        omega
    · by_cases q : i = K.length
      · exfalso
        rw [q] at c
        exact c app_m
      · omega
set_option maxRecDepth 100000 in
theorem len_m : (strB.getD 1 []).length = 168 := by decide +kernel
theorem iw_14p (B : Nat → Int32) (n st en : Nat) (s : Sg) (hs : Wd B n st en s) (m : Nat) : ∀ (R : List (List Int32)) (v2 v3 : Int32), R.all okK = true → 0 ≤ v3.toInt → v3.toInt ≤ 168 → (strB.getD 1 []).drop v3.toNatClampNeg = flatK R → 0 ≤ v2.toInt → v2.toInt + (R.length : Int) ≤ 31 → PQ (f_X12_inWords_1001_b14 m v2 v3 s) (fun r s9 => s9 = s ∧ ((∃ j, j < R.length ∧ IsW B st (en - st) (R.getD j []) ∧ r.toInt = v2.toInt + (j : Int)) ∨ ((∀ j, j < R.length → ¬ IsW B st (en - st) (R.getD j [])) ∧ r = -1))) := by
  induction m with
  | zero => intro R v2 v3 _ _ _ _ _ _ r s9 e; cases e
  | succ m ih =>
    intro R v2 v3 hR h0 h1 hd h2 hl
    have e168 : (168 : Int32).toInt = 168 := rfl
    have e1 : (1 : Int32).toInt = 1 := rfl
    have hlen := len_m
    have cl3 := cl_nat v3
    unfold f_X12_inWords_1001_b14
    cases R with
    | nil =>
      refine pq_if (fun _ => pq_s ⟨rfl, Or.inr ⟨fun j hj => absurd hj (Nat.not_lt_zero j), rfl⟩⟩) (fun c => ?_)
      exfalso
      have c := i_nle c
      have q := congrArg List.length hd
      rw [List.length_drop, hlen] at q
      have z : (flatK []).length = 0 := rfl
      rw [z] at q
      omega
    | cons K R =>
      have hK : okK K = true := List.all_eq_true.mp hR K List.mem_cons_self
      have hR2 : R.all okK = true := List.all_eq_true.mpr (fun x hx => List.all_eq_true.mp hR x (List.mem_cons_of_mem _ hx))
      have lenq : 168 - v3.toNatClampNeg = K.length + (1 + (flatK R).length) := by
        have q := congrArg List.length hd
        rw [List.length_drop, hlen] at q
        have z : (flatK (K :: R)).length = K.length + ((flatK R).length + 1) := by
          show (K ++ (32 :: flatK R)).length = _
          rw [List.length_append, List.length_cons]
        rw [z] at q
        omega
      have kk := (okK_x hK).1
      refine pq_if (fun c => ?_) (fun c => ?_)
      · exfalso
        have c := i_le c
        omega
      · have c := i_nle c
        refine iw_25p B n st en (f_X12_inWords_1001_b14 m) K (flatK R) hK v2 v3 h0 (by omega) hd s hs (fun w => ⟨rfl, Or.inl ⟨0, by rw [List.length_cons]; omega, w, by omega⟩⟩) (fun v4 h4 nw => ?_) BIG 0 v3 (by omega) (Nat.zero_le _)
        have a4 : (v4 + 1).toInt = v4.toInt + 1 := i_addx v4 1 (show -2147483648 ≤ v4.toInt + 1 ∧ v4.toInt + 1 ≤ 2147483647 from by omega)
        have hl' : v2.toInt + ((R.length : Int) + 1) ≤ 31 := by
          rw [List.length_cons] at hl
          omega
        have a2 : (v2 + 1).toInt = v2.toInt + 1 := i_addx v2 1 (show -2147483648 ≤ v2.toInt + 1 ∧ v2.toInt + 1 ≤ 2147483647 from by omega)
        have cl4 := cl_nat (v4 + 1)
        have d4 : (v4 + 1).toNatClampNeg = v3.toNatClampNeg + (K.length + 1) := by omega
        have hd2 : (strB.getD 1 []).drop (v4 + 1).toNatClampNeg = flatK R := by
          rw [d4, ← List.drop_drop, hd]
          show (K ++ (32 :: flatK R)).drop (K.length + 1) = _
          rw [List.drop_append, Nat.add_sub_cancel_left, List.drop_eq_nil_of_le (by omega)]
          rfl
        refine pq_w (ih R (v2 + 1) (v4 + 1) hR2 (by omega) (by omega) hd2 (by omega) (by omega)) (fun r s9 g => ⟨g.1, ?_⟩)
        rcases g.2 with ⟨j, g1, g2, g3⟩ | ⟨g1, g2⟩
        · exact Or.inl ⟨j + 1, by rw [List.length_cons]; omega, g2, by omega⟩
        · refine Or.inr ⟨fun j hj => ?_, g2⟩
          cases j with
          | zero => exact nw
          | succ j => exact g1 j (by rw [List.length_cons] at hj; omega)
theorem iw_p (B : Nat → Int32) (n st en : Nat) {s : Sg} (hs : Wd B n st en s) : PQ (f_X12_inWords_1001 s) (fun r s9 => s9 = s ∧ ((s.1 0 12 = 2 ∧ ((∃ j : Nat, j < 31 ∧ IsW B st (en - st) (KWM.getD j []) ∧ r.toInt = (j : Int)) ∨ ((∀ j, j < 31 → ¬ IsW B st (en - st) (KWM.getD j [])) ∧ r = -1))) ∨ (¬ s.1 0 12 = 2 ∧ r = -1))) := by
  unfold f_X12_inWords_1001
  refine pq_if (fun c => ?_) (fun c => pq_s ⟨rfl, Or.inr ⟨c, rfl⟩⟩)
  have hd : (strB.getD 1 []).drop (1 : Int32).toNatClampNeg = flatK KWM := by
    rw [flat_m]
    rfl
  refine pq_w (iw_14p B n st en s hs BIG KWM 0 1 okML (by decide) (by decide) hd (by decide) (by decide)) (fun r s9 g => ⟨g.1, Or.inl ⟨c, ?_⟩⟩)
  rcases g.2 with ⟨j, g1, g2, g3⟩ | ⟨g1, g2⟩
  · have e0 : (0 : Int32).toInt = 0 := rfl
    exact Or.inl ⟨j, g1, g2, by omega⟩
  · exact Or.inr ⟨g1, g2⟩
/-! both kinds of a word -/
set_option maxRecDepth 100000 in
theorem perm_c : ∀ i, i < 31 → permK.getD i 0 < 31 ∧ KWM.getD (permK.getD i 0) [] = KWC.getD i [] := by decide +kernel
set_option maxRecDepth 100000 in
theorem perm_m : ∀ i, i < 31 → ∀ j, j < 31 → KWM.getD i [] = KWM.getD j [] → i = j := by decide +kernel
set_option maxRecDepth 100000 in
theorem perm_s : ∀ j, j < 31 → ∃ i : Nat, i < 31 ∧ permK.getD i 0 = j := by decide +kernel
/-- kinds: what the class has and what the reference finds -/
def KwR (k r : Int32) : Prop := (∃ i : Nat, i < 31 ∧ k.toInt = 100 + (i : Int) ∧ r.toInt = ((permK.getD i 0 : Nat) : Int)) ∨ (k = 1 ∧ r = -1)
theorem kwr_of {B : Nat → Int32} {st k : Nat} (hk : k ≤ 8) (hl : Lets B st k) {r : Int32} (h : (∃ j : Nat, j < 31 ∧ IsW B st k (KWM.getD j []) ∧ r.toInt = (j : Int)) ∨ ((∀ j, j < 31 → ¬ IsW B st k (KWM.getD j [])) ∧ r = -1)) : KwR (kwf (p27 B st k) (flatK KWC) 100 0) r := by
  have hC : KWC.length = 31 := by decide
  rcases kwf_x hk hl KWC 100 okCL with ⟨i, g1, g2, g3⟩ | ⟨g1, g2⟩
  · rw [hC] at g1
    have p := perm_c i g1
    rw [← p.2] at g2
    refine Or.inl ⟨i, g1, ?_, ?_⟩
    · rw [g3]
      have a := i_add 100 (Int32.ofNat i)
      have b : (Int32.ofNat i).toInt = (i : Int) := Int32.toInt_ofNat_of_lt (by omega)
      have e : (100 : Int32).toInt = 100 := rfl
      omega
    · rcases h with ⟨j, h1, h2, h3⟩ | ⟨h1, h2⟩
      · have e := isW_u h2 g2
        have f := perm_m j h1 _ p.1 e
        rw [h3, f]
      · exact absurd g2 (h1 _ p.1)
  · refine Or.inr ⟨g2, ?_⟩
    rcases h with ⟨j, h1, h2, h3⟩ | ⟨h1, h2⟩
    · obtain ⟨i, hi, e⟩ := perm_s j h1
      have p := perm_c i hi
      rw [e] at p
      rw [p.2] at h2
      exact absurd h2 (g1 i (by rw [hC]; exact hi))
    · exact h2
