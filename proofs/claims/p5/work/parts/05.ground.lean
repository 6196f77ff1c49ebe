theorem fam_use : True := by
  have h0 := @W.aret
  have h1 := @va_callr
  have h2 := @va_aldq
  have h3 := @va_copyi
  have h4 := @va_copyl
  have h5 := @va_mabs
  have h6 := @va_mmax
  have h7 := @va_mmin
  have h8 := @lg_cmp_le
  have h9 := @lg_cmp_gt
  have h10 := @pk_lLE
  have h11 := @nI_l
  have h12 := @lN_add
  have h13 := @va_ldcS
  have h14 := @vk_getf
  have h15 := @vk_S.kept
  have h16 := @va_newa
  have h17 := @va_newq
  have h18 := @va_new
  have h19 := @W.lcmp
  have h20 := @lv_lookup
  have h21 := @lv_tableIn
  have h22 := @lv_ldcw
  have h23 := @u_known
  have h24 := @va_sld
  have h25 := @va_bald
  have h26 := @va_bast
  have h27 := @va_lald
  have h28 := @va_last
  have h29 := @va_calll
  have h30 := @va_callv
  have h31 := @va_calli
  have h32 := @va_astq
  have h33 := @pk_andE
  have h34 := @nI_of
  have h35 := @pk_sub
  trivial
def R8 (f : Nat → Int32) : Prop := ∀ i, ∃ k, k < 8 ∧ f i = nI k
def R60 (f : Nat → Int32) : Prop := ∀ i, ∃ k, k < 60 ∧ f i = nI k
theorem R8_upd {f : Nat → Int32} {i : Nat} {x : Int32} (h : R8 f) (hx : ∃ k, k < 8 ∧ x = nI k) : R8 (upd f i x) := by
  intro j; unfold upd; split
  · exact hx
  · exact h j
theorem R60_upd {f : Nat → Int32} {i : Nat} {x : Int32} (h : R60 f) (hx : ∃ k, k < 60 ∧ x = nI k) : R60 (upd f i x) := by
  intro j; unfold upd; split
  · exact hx
  · exact h j
theorem nar_b {z : Int32} (h : z = 0 ∨ z = 1) : narrow .boolean (.int z) = .int z := by
  rcases h with h | h <;> rw [h] <;> rfl
theorem fit_b {z : Int32} (h : z = 0 ∨ z = 1) : fits .boolean (.int z) = true := by
  rcases h with h | h <;> rw [h] <;> rfl
theorem nat01 {k : Nat} (h : k ≤ 1) : nI k = 0 ∨ nI k = 1 := by
  rcases (by omega : k = 0 ∨ k = 1) with rfl | rfl
  · exact Or.inl rfl
  · exact Or.inr rfl
theorem dX11_has_0 : decode cX11_has 0 = .ok (.iload_n 0, 1) := by decide +kernel
theorem dX11_has_1 : decode cX11_has 1 = .ok (.iload_n 1, 1) := by decide +kernel
theorem dX11_has_2 : decode cX11_has 2 = .ok (.ishr, 1) := by decide +kernel
theorem dX11_has_3 : decode cX11_has 3 = .ok (.iconst 1, 1) := by decide +kernel
theorem dX11_has_4 : decode cX11_has 4 = .ok (.iand, 1) := by decide +kernel
theorem dX11_has_5 : decode cX11_has 5 = .ok (.ifCond .eq 7, 3) := by decide +kernel
theorem dX11_has_12 : decode cX11_has 12 = .ok (.iconst 0, 1) := by decide +kernel
theorem dX11_has_13 : decode cX11_has 13 = .ok (.ireturn, 1) := by decide +kernel
theorem dX11_has_8 : decode cX11_has 8 = .ok (.iconst 1, 1) := by decide +kernel
theorem dX11_has_9 : decode cX11_has 9 = .ok (.goto 4, 3) := by decide +kernel
def vds_has : List Cond := [.code yX11_has cX11_has 2 (some .boolean)]
def vs_has : List Cond := vds_has ++ ([] : List Cond)
set_option maxHeartbeats 4000000 in
set_option maxRecDepth 100000 in
theorem s_has (l : Launch) (D : va_G) (kc : Nat → ClassId) (sz : Nat) (a0 : Int32) (a1 : Int32) : Met l yX11_has vs_has ({ frames := 0, cells := 0, slots := 0, locals := 0 }) (va_Pc [.int a0, .int a1] (wPre D kc [] sz)) (va_Qi (fun (r : Int32) (_ : Unit) => (r = 0 ∨ r = 1)) (fun (_ : Unit) (t9 : State) => va_P D vwCl [] t9.heap ∧ va_D (va_A [] sz) []) (va_A [] sz)) 0 0 (va_A [] sz) := by
  refine Met.ofW (cc := cX11_has) (maxL := 2) (ret := (some .boolean)) (by decide) rfl ?_
  intro p e s m args below meth c s₁ B hml hv
  obtain ⟨rfl, hsz, hP, hE, hD0⟩ := hv
  have hx := B.exec
  have hb := B.bytes
  have hr := B.returns
  have hts := atoms_spec (ws := vs_has) B.pre
  have hown : s.vm.findClass RX11 = some m.cls := findClass_of_methodNamed B.named
  have hlocks := B.notSynchronized
  subst hsz
  have hD := hD0.self (sz := s.heap.size)
  generalize hAe : va_A [] s.heap.size = A at hD ⊢
  have hA : ∀ q : Nat, s.heap.size ≤ q → A q := fun q h => by rw [← hAe]; exact Or.inr h
  have hS : va_S A s.heap s.heap [] := va_S.rf
  have hK := hE.1
  have hP : va_P D vwCl [] s.heap := hP
  have hl := lv_entry ([.int a0, .int a1]) (n := 2) (Nat.le_of_ble_eq_true rfl)
  rw [lg_entry_eq]
  generalize (lg_sl ([.int a0, .int a1]) ++ List.replicate (2 - (lg_sl ([.int a0, .int a1])).length) Slot.unset).toArray = ls at hl ⊢
  have hl : lv_has ls 2 [(0, .int a0), (1, .int a1)] := hl
  refine lv_iload_n hx hb dX11_has_0 rfl (lv_at hl 0 rfl) ?_
  refine lv_iload_n hx hb dX11_has_1 rfl (lv_at hl 1 rfl) ?_
  refine lv_ishr hx hb dX11_has_2 ?_
  refine lv_topi (fun z1 _ => ?_)
  refine lv_iconst (v := 1) hx hb dX11_has_3 (by decide) ?_
  refine lv_iand hx hb dX11_has_4 ?_
  refine lv_topi (fun z2 _ => ?_)
  refine lv_if_eq (tgt := 12) hx hb dX11_has_5 (by decide) (fun c3 => ?_) (fun c3 => ?_)
  · refine lv_iconst (v := 0) hx hb dX11_has_12 (by decide) ?_
    have hP9 := hP.sub (ws' := []) [] rfl
    have hD9 := hD.sub (ws' := []) [] (by decide) rfl
    exact W.zret (v := 0) hx hb hr rfl (fun t9 ht hW => ⟨⟨0, (), rfl, Or.inl rfl, by rw [ht]; exact hP9, hD9⟩, hS.F ht⟩) hS.2.2 dX11_has_13
  · refine lv_iconst (v := 1) hx hb dX11_has_8 (by decide) ?_
    refine lv_goto (tgt := 13) hx hb dX11_has_9 (by decide) ?_
    have hP9 := hP.sub (ws' := []) [] rfl
    have hD9 := hD.sub (ws' := []) [] (by decide) rfl
    exact W.zret (v := 1) hx hb hr rfl (fun t9 ht hW => ⟨⟨1, (), rfl, Or.inr rfl, by rw [ht]; exact hP9, hD9⟩, hS.F ht⟩) hS.2.2 dX11_has_13
theorem dX4_isGone_0 : decode cX4_isGone 0 = .ok (.aload_n 0, 1) := by decide +kernel
theorem dX4_isGone_1 : decode cX4_isGone 1 = .ok (.getfield 72, 3) := by decide +kernel
theorem dX4_isGone_4 : decode cX4_isGone 4 = .ok (.iload_n 1, 1) := by decide +kernel
theorem dX4_isGone_5 : decode cX4_isGone 5 = .ok (.ishr, 1) := by decide +kernel
theorem dX4_isGone_6 : decode cX4_isGone 6 = .ok (.iconst 1, 1) := by decide +kernel
theorem dX4_isGone_7 : decode cX4_isGone 7 = .ok (.iand, 1) := by decide +kernel
theorem dX4_isGone_8 : decode cX4_isGone 8 = .ok (.ifCond .eq 7, 3) := by decide +kernel
theorem dX4_isGone_15 : decode cX4_isGone 15 = .ok (.iconst 0, 1) := by decide +kernel
theorem dX4_isGone_16 : decode cX4_isGone 16 = .ok (.ireturn, 1) := by decide +kernel
theorem dX4_isGone_11 : decode cX4_isGone 11 = .ok (.iconst 1, 1) := by decide +kernel
theorem dX4_isGone_12 : decode cX4_isGone 12 = .ok (.goto 4, 3) := by decide +kernel
def vds_isGone : List Cond := [.code yX4_isGone cX4_isGone 2 (some .boolean), .fieldLink RX4 72 "SaltStreet$Plan" "gone" "I"]
def vs_isGone : List Cond := vds_isGone ++ (wsX40 ++ ([] : List Cond))
theorem is_isGone_X4 : ∀ w ∈ wsX40, w ∈ vs_isGone := fun _ h => List.mem_append_right _ (List.mem_append_left _ h)
set_option maxHeartbeats 4000000 in
set_option maxRecDepth 100000 in
theorem s_isGone (l : Launch) (D : va_G) (kc : Nat → ClassId) (sz : Nat) (na : Nat → Nat) (na_named : Nat) (na_houses : Nat) (na_quarrels : Nat) (na_cats : Nat) (na_grocers : Nat) (na_gone : Int32) (na_washes : Int32) (na_goneCounts : Int32) (a0 : Int32) (h_na_named : na_named ≤ 24) (h_na_houses : na_houses ≤ 8) (h_na_quarrels : na_quarrels ≤ 8) (h_na_cats : na_cats ≤ 4) (h_na_grocers : na_grocers ≤ 4) (h_na_goneCounts : na_goneCounts = 0 ∨ na_goneCounts = 1) : Met l yX4_isGone vs_isGone ({ frames := 0, cells := 0, slots := 0, locals := 0 }) (va_Pc [.ref (na 1), .int a0] (wPre D kc [(na 1, .inr (4, [.ref (na 4), .ref (na 5), .ref (na 6), .ref (na 7), .ref (na 8), .ref (na 9), .ref (na 10), .ref (na 11), .ref (na 12), .ref (na 13), .ref (na 14), .ref (na 15), .int (nI na_named), .int (nI na_houses), .int (nI na_quarrels), .int (nI na_cats), .int (nI na_grocers), .int na_gone, .int na_washes, .int na_goneCounts]))] sz)) (va_Qi (fun (r : Int32) (_ : Unit) => (r = 0 ∨ r = 1)) (fun (_ : Unit) (t9 : State) => va_P D vwCl [(na 1, .inr (4, [.ref (na 4), .ref (na 5), .ref (na 6), .ref (na 7), .ref (na 8), .ref (na 9), .ref (na 10), .ref (na 11), .ref (na 12), .ref (na 13), .ref (na 14), .ref (na 15), .int (nI na_named), .int (nI na_houses), .int (nI na_quarrels), .int (nI na_cats), .int (nI na_grocers), .int na_gone, .int na_washes, .int na_goneCounts]))] t9.heap ∧ va_D (va_A [(na 1, .inr (4, [.ref (na 4), .ref (na 5), .ref (na 6), .ref (na 7), .ref (na 8), .ref (na 9), .ref (na 10), .ref (na 11), .ref (na 12), .ref (na 13), .ref (na 14), .ref (na 15), .int (nI na_named), .int (nI na_houses), .int (nI na_quarrels), .int (nI na_cats), .int (nI na_grocers), .int na_gone, .int na_washes, .int na_goneCounts]))] sz) [(na 1, .inr (4, [.ref (na 4), .ref (na 5), .ref (na 6), .ref (na 7), .ref (na 8), .ref (na 9), .ref (na 10), .ref (na 11), .ref (na 12), .ref (na 13), .ref (na 14), .ref (na 15), .int (nI na_named), .int (nI na_houses), .int (nI na_quarrels), .int (nI na_cats), .int (nI na_grocers), .int na_gone, .int na_washes, .int na_goneCounts]))]) (va_A [(na 1, .inr (4, [.ref (na 4), .ref (na 5), .ref (na 6), .ref (na 7), .ref (na 8), .ref (na 9), .ref (na 10), .ref (na 11), .ref (na 12), .ref (na 13), .ref (na 14), .ref (na 15), .int (nI na_named), .int (nI na_houses), .int (nI na_quarrels), .int (nI na_cats), .int (nI na_grocers), .int na_gone, .int na_washes, .int na_goneCounts]))] sz)) 0 0 (va_A [(na 1, .inr (4, [.ref (na 4), .ref (na 5), .ref (na 6), .ref (na 7), .ref (na 8), .ref (na 9), .ref (na 10), .ref (na 11), .ref (na 12), .ref (na 13), .ref (na 14), .ref (na 15), .int (nI na_named), .int (nI na_houses), .int (nI na_quarrels), .int (nI na_cats), .int (nI na_grocers), .int na_gone, .int na_washes, .int na_goneCounts]))] sz) := by
  refine Met.ofW (cc := cX4_isGone) (maxL := 2) (ret := (some .boolean)) (by decide) rfl ?_
  intro p e s m args below meth c s₁ B hml hv
  obtain ⟨rfl, hsz, hP, hE, hD0⟩ := hv
  have hx := B.exec
  have hb := B.bytes
  have hr := B.returns
  have hts := atoms_spec (ws := vs_isGone) B.pre
  have hown : s.vm.findClass RX4 = some m.cls := findClass_of_methodNamed B.named
  have hlocks := B.notSynchronized
  subst hsz
  have hD := hD0.self (sz := s.heap.size)
  generalize hAe : va_A [(na 1, .inr (4, [.ref (na 4), .ref (na 5), .ref (na 6), .ref (na 7), .ref (na 8), .ref (na 9), .ref (na 10), .ref (na 11), .ref (na 12), .ref (na 13), .ref (na 14), .ref (na 15), .int (nI na_named), .int (nI na_houses), .int (nI na_quarrels), .int (nI na_cats), .int (nI na_grocers), .int na_gone, .int na_washes, .int na_goneCounts]))] s.heap.size = A at hD ⊢
  have hA : ∀ q : Nat, s.heap.size ≤ q → A q := fun q h => by rw [← hAe]; exact Or.inr h
  have hS : va_S A s.heap s.heap [] := va_S.rf
  have hK := hE.1
  have hP : va_P D vwCl [(na 1, .inr (4, [.ref (na 4), .ref (na 5), .ref (na 6), .ref (na 7), .ref (na 8), .ref (na 9), .ref (na 10), .ref (na 11), .ref (na 12), .ref (na 13), .ref (na 14), .ref (na 15), .int (nI na_named), .int (nI na_houses), .int (nI na_quarrels), .int (nI na_cats), .int (nI na_grocers), .int na_gone, .int na_washes, .int na_goneCounts]))] s.heap := hP
  have hl := lv_entry ([.ref (na 1), .int a0]) (n := 2) (Nat.le_of_ble_eq_true rfl)
  rw [lg_entry_eq]
  generalize (lg_sl ([.ref (na 1), .int a0]) ++ List.replicate (2 - (lg_sl ([.ref (na 1), .int a0])).length) Slot.unset).toArray = ls at hl ⊢
  have hl : lv_has ls 2 [(0, .ref (na 1)), (1, .int a0)] := hl
  refine lv_aload_n hx hb dX4_isGone_0 rfl (lv_at hl 0 rfl) ?_
  refine va_get (D := D) (ci := 4) (v := .int na_gone) (C := RX4) (T := TX4) (N := 20) hx hb hts is_isGone_X4 hown hK hP 0 rfl rfl 17 (by decide) (hts (.fieldLink RX4 72 "SaltStreet$Plan" "gone" "I") (List.mem_of_getElem? (i := 1) rfl)) (fun _ h9 => h9) rfl dX4_isGone_1 ?_
  refine lv_iload_n hx hb dX4_isGone_4 rfl (lv_at hl 1 rfl) ?_
  refine lv_ishr hx hb dX4_isGone_5 ?_
  refine lv_topi (fun z1 _ => ?_)
  refine lv_iconst (v := 1) hx hb dX4_isGone_6 (by decide) ?_
  refine lv_iand hx hb dX4_isGone_7 ?_
  refine lv_topi (fun z2 _ => ?_)
  refine lv_if_eq (tgt := 15) hx hb dX4_isGone_8 (by decide) (fun c3 => ?_) (fun c3 => ?_)
  · refine lv_iconst (v := 0) hx hb dX4_isGone_15 (by decide) ?_
    have hP9 := hP.sub (ws' := [(na 1, .inr (4, [.ref (na 4), .ref (na 5), .ref (na 6), .ref (na 7), .ref (na 8), .ref (na 9), .ref (na 10), .ref (na 11), .ref (na 12), .ref (na 13), .ref (na 14), .ref (na 15), .int (nI na_named), .int (nI na_houses), .int (nI na_quarrels), .int (nI na_cats), .int (nI na_grocers), .int na_gone, .int na_washes, .int na_goneCounts]))]) [0] rfl
    have hD9 := hD.sub (ws' := [(na 1, .inr (4, [.ref (na 4), .ref (na 5), .ref (na 6), .ref (na 7), .ref (na 8), .ref (na 9), .ref (na 10), .ref (na 11), .ref (na 12), .ref (na 13), .ref (na 14), .ref (na 15), .int (nI na_named), .int (nI na_houses), .int (nI na_quarrels), .int (nI na_cats), .int (nI na_grocers), .int na_gone, .int na_washes, .int na_goneCounts]))]) [0] (by decide) rfl
    exact W.zret (v := 0) hx hb hr rfl (fun t9 ht hW => ⟨⟨0, (), rfl, Or.inl rfl, by rw [ht]; exact hP9, hD9⟩, hS.F ht⟩) hS.2.2 dX4_isGone_16
  · refine lv_iconst (v := 1) hx hb dX4_isGone_11 (by decide) ?_
    refine lv_goto (tgt := 16) hx hb dX4_isGone_12 (by decide) ?_
    have hP9 := hP.sub (ws' := [(na 1, .inr (4, [.ref (na 4), .ref (na 5), .ref (na 6), .ref (na 7), .ref (na 8), .ref (na 9), .ref (na 10), .ref (na 11), .ref (na 12), .ref (na 13), .ref (na 14), .ref (na 15), .int (nI na_named), .int (nI na_houses), .int (nI na_quarrels), .int (nI na_cats), .int (nI na_grocers), .int na_gone, .int na_washes, .int na_goneCounts]))]) [0] rfl
    have hD9 := hD.sub (ws' := [(na 1, .inr (4, [.ref (na 4), .ref (na 5), .ref (na 6), .ref (na 7), .ref (na 8), .ref (na 9), .ref (na 10), .ref (na 11), .ref (na 12), .ref (na 13), .ref (na 14), .ref (na 15), .int (nI na_named), .int (nI na_houses), .int (nI na_quarrels), .int (nI na_cats), .int (nI na_grocers), .int na_gone, .int na_washes, .int na_goneCounts]))]) [0] (by decide) rfl
    exact W.zret (v := 1) hx hb hr rfl (fun t9 ht hW => ⟨⟨1, (), rfl, Or.inr rfl, by rw [ht]; exact hP9, hD9⟩, hS.F ht⟩) hS.2.2 dX4_isGone_16
theorem dX4_isAt_0 : decode cX4_isAt 0 = .ok (.aload_n 0, 1) := by decide +kernel
theorem dX4_isAt_1 : decode cX4_isAt 1 = .ok (.getfield 31, 3) := by decide +kernel
theorem dX4_isAt_4 : decode cX4_isAt 4 = .ok (.iload_n 2, 1) := by decide +kernel
theorem dX4_isAt_5 : decode cX4_isAt 5 = .ok (.iaload, 1) := by decide +kernel
theorem dX4_isAt_6 : decode cX4_isAt 6 = .ok (.iload_n 1, 1) := by decide +kernel
theorem dX4_isAt_7 : decode cX4_isAt 7 = .ok (.ishr, 1) := by decide +kernel
theorem dX4_isAt_8 : decode cX4_isAt 8 = .ok (.iconst 1, 1) := by decide +kernel
theorem dX4_isAt_9 : decode cX4_isAt 9 = .ok (.iand, 1) := by decide +kernel
theorem dX4_isAt_10 : decode cX4_isAt 10 = .ok (.ifCond .eq 7, 3) := by decide +kernel
theorem dX4_isAt_17 : decode cX4_isAt 17 = .ok (.iconst 0, 1) := by decide +kernel
theorem dX4_isAt_18 : decode cX4_isAt 18 = .ok (.ireturn, 1) := by decide +kernel
theorem dX4_isAt_13 : decode cX4_isAt 13 = .ok (.iconst 1, 1) := by decide +kernel
theorem dX4_isAt_14 : decode cX4_isAt 14 = .ok (.goto 4, 3) := by decide +kernel
def vds_isAt : List Cond := [.code yX4_isAt cX4_isAt 3 (some .boolean), .fieldLink RX4 31 "SaltStreet$Plan" "quarrelsAt" "[I"]
def vs_isAt : List Cond := vds_isAt ++ (wsX40 ++ ([] : List Cond))
theorem is_isAt_X4 : ∀ w ∈ wsX40, w ∈ vs_isAt := fun _ h => List.mem_append_right _ (List.mem_append_left _ h)
set_option maxHeartbeats 4000000 in
set_option maxRecDepth 100000 in
theorem s_isAt (l : Launch) (D : va_G) (kc : Nat → ClassId) (sz : Nat) (na : Nat → Nat) (na_named : Nat) (na_houses : Nat) (na_quarrels : Nat) (na_cats : Nat) (na_grocers : Nat) (na_gone : Int32) (na_washes : Int32) (na_goneCounts : Int32) (na_quarrelsAt : Nat → Int32) (a0 : Int32) (a1 : Nat) (h_na_named : na_named ≤ 24) (h_na_houses : na_houses ≤ 8) (h_na_quarrels : na_quarrels ≤ 8) (h_na_cats : na_cats ≤ 4) (h_na_grocers : na_grocers ≤ 4) (h_na_goneCounts : na_goneCounts = 0 ∨ na_goneCounts = 1) (h_a1 : a1 ≤ 7) : Met l yX4_isAt vs_isAt ({ frames := 0, cells := 0, slots := 0, locals := 0 }) (va_Pc [.ref (na 1), .int a0, .int (nI a1)] (wPre D kc [(na 1, .inr (4, [.ref (na 4), .ref (na 5), .ref (na 6), .ref (na 7), .ref (na 8), .ref (na 9), .ref (na 10), .ref (na 11), .ref (na 12), .ref (na 13), .ref (na 14), .ref (na 15), .int (nI na_named), .int (nI na_houses), .int (nI na_quarrels), .int (nI na_cats), .int (nI na_grocers), .int na_gone, .int na_washes, .int na_goneCounts])), (na 10, .inl (kc 0, 8, .inl na_quarrelsAt))] sz)) (va_Qi (fun (r : Int32) (_ : Unit) => (r = 0 ∨ r = 1)) (fun (_ : Unit) (t9 : State) => va_P D vwCl [(na 1, .inr (4, [.ref (na 4), .ref (na 5), .ref (na 6), .ref (na 7), .ref (na 8), .ref (na 9), .ref (na 10), .ref (na 11), .ref (na 12), .ref (na 13), .ref (na 14), .ref (na 15), .int (nI na_named), .int (nI na_houses), .int (nI na_quarrels), .int (nI na_cats), .int (nI na_grocers), .int na_gone, .int na_washes, .int na_goneCounts])), (na 10, .inl (kc 0, 8, .inl na_quarrelsAt))] t9.heap ∧ va_D (va_A [(na 1, .inr (4, [.ref (na 4), .ref (na 5), .ref (na 6), .ref (na 7), .ref (na 8), .ref (na 9), .ref (na 10), .ref (na 11), .ref (na 12), .ref (na 13), .ref (na 14), .ref (na 15), .int (nI na_named), .int (nI na_houses), .int (nI na_quarrels), .int (nI na_cats), .int (nI na_grocers), .int na_gone, .int na_washes, .int na_goneCounts])), (na 10, .inl (kc 0, 8, .inl na_quarrelsAt))] sz) [(na 1, .inr (4, [.ref (na 4), .ref (na 5), .ref (na 6), .ref (na 7), .ref (na 8), .ref (na 9), .ref (na 10), .ref (na 11), .ref (na 12), .ref (na 13), .ref (na 14), .ref (na 15), .int (nI na_named), .int (nI na_houses), .int (nI na_quarrels), .int (nI na_cats), .int (nI na_grocers), .int na_gone, .int na_washes, .int na_goneCounts])), (na 10, .inl (kc 0, 8, .inl na_quarrelsAt))]) (va_A [(na 1, .inr (4, [.ref (na 4), .ref (na 5), .ref (na 6), .ref (na 7), .ref (na 8), .ref (na 9), .ref (na 10), .ref (na 11), .ref (na 12), .ref (na 13), .ref (na 14), .ref (na 15), .int (nI na_named), .int (nI na_houses), .int (nI na_quarrels), .int (nI na_cats), .int (nI na_grocers), .int na_gone, .int na_washes, .int na_goneCounts])), (na 10, .inl (kc 0, 8, .inl na_quarrelsAt))] sz)) 0 0 (va_A [(na 1, .inr (4, [.ref (na 4), .ref (na 5), .ref (na 6), .ref (na 7), .ref (na 8), .ref (na 9), .ref (na 10), .ref (na 11), .ref (na 12), .ref (na 13), .ref (na 14), .ref (na 15), .int (nI na_named), .int (nI na_houses), .int (nI na_quarrels), .int (nI na_cats), .int (nI na_grocers), .int na_gone, .int na_washes, .int na_goneCounts])), (na 10, .inl (kc 0, 8, .inl na_quarrelsAt))] sz) := by
  refine Met.ofW (cc := cX4_isAt) (maxL := 3) (ret := (some .boolean)) (by decide) rfl ?_
  intro p e s m args below meth c s₁ B hml hv
  obtain ⟨rfl, hsz, hP, hE, hD0⟩ := hv
  have hx := B.exec
  have hb := B.bytes
  have hr := B.returns
  have hts := atoms_spec (ws := vs_isAt) B.pre
  have hown : s.vm.findClass RX4 = some m.cls := findClass_of_methodNamed B.named
  have hlocks := B.notSynchronized
  subst hsz
  have hD := hD0.self (sz := s.heap.size)
  generalize hAe : va_A [(na 1, .inr (4, [.ref (na 4), .ref (na 5), .ref (na 6), .ref (na 7), .ref (na 8), .ref (na 9), .ref (na 10), .ref (na 11), .ref (na 12), .ref (na 13), .ref (na 14), .ref (na 15), .int (nI na_named), .int (nI na_houses), .int (nI na_quarrels), .int (nI na_cats), .int (nI na_grocers), .int na_gone, .int na_washes, .int na_goneCounts])), (na 10, .inl (kc 0, 8, .inl na_quarrelsAt))] s.heap.size = A at hD ⊢
  have hA : ∀ q : Nat, s.heap.size ≤ q → A q := fun q h => by rw [← hAe]; exact Or.inr h
  have hS : va_S A s.heap s.heap [] := va_S.rf
  have hK := hE.1
  have hP : va_P D vwCl [(na 1, .inr (4, [.ref (na 4), .ref (na 5), .ref (na 6), .ref (na 7), .ref (na 8), .ref (na 9), .ref (na 10), .ref (na 11), .ref (na 12), .ref (na 13), .ref (na 14), .ref (na 15), .int (nI na_named), .int (nI na_houses), .int (nI na_quarrels), .int (nI na_cats), .int (nI na_grocers), .int na_gone, .int na_washes, .int na_goneCounts])), (na 10, .inl (kc 0, 8, .inl na_quarrelsAt))] s.heap := hP
  have hl := lv_entry ([.ref (na 1), .int a0, .int (nI a1)]) (n := 3) (Nat.le_of_ble_eq_true rfl)
  rw [lg_entry_eq]
  generalize (lg_sl ([.ref (na 1), .int a0, .int (nI a1)]) ++ List.replicate (3 - (lg_sl ([.ref (na 1), .int a0, .int (nI a1)])).length) Slot.unset).toArray = ls at hl ⊢
  have hl : lv_has ls 3 [(0, .ref (na 1)), (1, .int a0), (2, .int (nI a1))] := hl
  refine lv_aload_n hx hb dX4_isAt_0 rfl (lv_at hl 0 rfl) ?_
  refine va_get (D := D) (ci := 4) (v := .ref (na 10)) (C := RX4) (T := TX4) (N := 20) hx hb hts is_isAt_X4 hown hK hP 0 rfl rfl 6 (by decide) (hts (.fieldLink RX4 31 "SaltStreet$Plan" "quarrelsAt" "[I") (List.mem_of_getElem? (i := 1) rfl)) (fun _ h9 => h9) rfl dX4_isAt_1 ?_
  refine lv_iload_n hx hb dX4_isAt_4 rfl (lv_at hl 2 rfl) ?_
  refine va_iald hx hb hK hP 1 0 (f := na_quarrelsAt) rfl rfl (vp_in_nI (by omega) (by decide)) dX4_isAt_5 ?_
  refine lv_topi (fun z1 _ => ?_)
  refine lv_iload_n hx hb dX4_isAt_6 rfl (lv_at hl 1 rfl) ?_
  refine lv_ishr hx hb dX4_isAt_7 ?_
  refine lv_topi (fun z2 _ => ?_)
  refine lv_iconst (v := 1) hx hb dX4_isAt_8 (by decide) ?_
  refine lv_iand hx hb dX4_isAt_9 ?_
  refine lv_topi (fun z3 _ => ?_)
  refine lv_if_eq (tgt := 17) hx hb dX4_isAt_10 (by decide) (fun c4 => ?_) (fun c4 => ?_)
  · refine lv_iconst (v := 0) hx hb dX4_isAt_17 (by decide) ?_
    have hP9 := hP.sub (ws' := [(na 1, .inr (4, [.ref (na 4), .ref (na 5), .ref (na 6), .ref (na 7), .ref (na 8), .ref (na 9), .ref (na 10), .ref (na 11), .ref (na 12), .ref (na 13), .ref (na 14), .ref (na 15), .int (nI na_named), .int (nI na_houses), .int (nI na_quarrels), .int (nI na_cats), .int (nI na_grocers), .int na_gone, .int na_washes, .int na_goneCounts])), (na 10, .inl (kc 0, 8, .inl na_quarrelsAt))]) [0, 1] rfl
    have hD9 := hD.sub (ws' := [(na 1, .inr (4, [.ref (na 4), .ref (na 5), .ref (na 6), .ref (na 7), .ref (na 8), .ref (na 9), .ref (na 10), .ref (na 11), .ref (na 12), .ref (na 13), .ref (na 14), .ref (na 15), .int (nI na_named), .int (nI na_houses), .int (nI na_quarrels), .int (nI na_cats), .int (nI na_grocers), .int na_gone, .int na_washes, .int na_goneCounts])), (na 10, .inl (kc 0, 8, .inl na_quarrelsAt))]) [0, 1] (by decide) rfl
    exact W.zret (v := 0) hx hb hr rfl (fun t9 ht hW => ⟨⟨0, (), rfl, Or.inl rfl, by rw [ht]; exact hP9, hD9⟩, hS.F ht⟩) hS.2.2 dX4_isAt_18
  · refine lv_iconst (v := 1) hx hb dX4_isAt_13 (by decide) ?_
    refine lv_goto (tgt := 18) hx hb dX4_isAt_14 (by decide) ?_
    have hP9 := hP.sub (ws' := [(na 1, .inr (4, [.ref (na 4), .ref (na 5), .ref (na 6), .ref (na 7), .ref (na 8), .ref (na 9), .ref (na 10), .ref (na 11), .ref (na 12), .ref (na 13), .ref (na 14), .ref (na 15), .int (nI na_named), .int (nI na_houses), .int (nI na_quarrels), .int (nI na_cats), .int (nI na_grocers), .int na_gone, .int na_washes, .int na_goneCounts])), (na 10, .inl (kc 0, 8, .inl na_quarrelsAt))]) [0, 1] rfl
    have hD9 := hD.sub (ws' := [(na 1, .inr (4, [.ref (na 4), .ref (na 5), .ref (na 6), .ref (na 7), .ref (na 8), .ref (na 9), .ref (na 10), .ref (na 11), .ref (na 12), .ref (na 13), .ref (na 14), .ref (na 15), .int (nI na_named), .int (nI na_houses), .int (nI na_quarrels), .int (nI na_cats), .int (nI na_grocers), .int na_gone, .int na_washes, .int na_goneCounts])), (na 10, .inl (kc 0, 8, .inl na_quarrelsAt))]) [0, 1] (by decide) rfl
    exact W.zret (v := 1) hx hb hr rfl (fun t9 ht hW => ⟨⟨1, (), rfl, Or.inr rfl, by rw [ht]; exact hP9, hD9⟩, hS.F ht⟩) hS.2.2 dX4_isAt_18
theorem dX4_allHouses_0 : decode cX4_allHouses 0 = .ok (.iconst 1, 1) := by decide +kernel
theorem dX4_allHouses_1 : decode cX4_allHouses 1 = .ok (.aload_n 0, 1) := by decide +kernel
theorem dX4_allHouses_2 : decode cX4_allHouses 2 = .ok (.getfield 60, 3) := by decide +kernel
theorem dX4_allHouses_5 : decode cX4_allHouses 5 = .ok (.ishl, 1) := by decide +kernel
theorem dX4_allHouses_6 : decode cX4_allHouses 6 = .ok (.iconst 1, 1) := by decide +kernel
theorem dX4_allHouses_7 : decode cX4_allHouses 7 = .ok (.isub, 1) := by decide +kernel
theorem dX4_allHouses_8 : decode cX4_allHouses 8 = .ok (.ireturn, 1) := by decide +kernel
def vds_allHouses : List Cond := [.code yX4_allHouses cX4_allHouses 1 (some .int), .fieldLink RX4 60 "SaltStreet$Plan" "houses" "I"]
def vs_allHouses : List Cond := vds_allHouses ++ (wsX40 ++ ([] : List Cond))
theorem is_allHouses_X4 : ∀ w ∈ wsX40, w ∈ vs_allHouses := fun _ h => List.mem_append_right _ (List.mem_append_left _ h)
set_option maxHeartbeats 4000000 in
set_option maxRecDepth 100000 in
theorem s_allHouses (l : Launch) (D : va_G) (kc : Nat → ClassId) (sz : Nat) (na : Nat → Nat) (na_named : Nat) (na_houses : Nat) (na_quarrels : Nat) (na_cats : Nat) (na_grocers : Nat) (na_gone : Int32) (na_washes : Int32) (na_goneCounts : Int32) (h_na_named : na_named ≤ 24) (h_na_houses : na_houses ≤ 8) (h_na_quarrels : na_quarrels ≤ 8) (h_na_cats : na_cats ≤ 4) (h_na_grocers : na_grocers ≤ 4) (h_na_goneCounts : na_goneCounts = 0 ∨ na_goneCounts = 1) : Met l yX4_allHouses vs_allHouses ({ frames := 0, cells := 0, slots := 0, locals := 0 }) (va_Pc [.ref (na 1)] (wPre D kc [(na 1, .inr (4, [.ref (na 4), .ref (na 5), .ref (na 6), .ref (na 7), .ref (na 8), .ref (na 9), .ref (na 10), .ref (na 11), .ref (na 12), .ref (na 13), .ref (na 14), .ref (na 15), .int (nI na_named), .int (nI na_houses), .int (nI na_quarrels), .int (nI na_cats), .int (nI na_grocers), .int na_gone, .int na_washes, .int na_goneCounts]))] sz)) (va_Qi (fun (r : Int32) (_ : Unit) => True) (fun (_ : Unit) (t9 : State) => va_P D vwCl [(na 1, .inr (4, [.ref (na 4), .ref (na 5), .ref (na 6), .ref (na 7), .ref (na 8), .ref (na 9), .ref (na 10), .ref (na 11), .ref (na 12), .ref (na 13), .ref (na 14), .ref (na 15), .int (nI na_named), .int (nI na_houses), .int (nI na_quarrels), .int (nI na_cats), .int (nI na_grocers), .int na_gone, .int na_washes, .int na_goneCounts]))] t9.heap ∧ va_D (va_A [(na 1, .inr (4, [.ref (na 4), .ref (na 5), .ref (na 6), .ref (na 7), .ref (na 8), .ref (na 9), .ref (na 10), .ref (na 11), .ref (na 12), .ref (na 13), .ref (na 14), .ref (na 15), .int (nI na_named), .int (nI na_houses), .int (nI na_quarrels), .int (nI na_cats), .int (nI na_grocers), .int na_gone, .int na_washes, .int na_goneCounts]))] sz) [(na 1, .inr (4, [.ref (na 4), .ref (na 5), .ref (na 6), .ref (na 7), .ref (na 8), .ref (na 9), .ref (na 10), .ref (na 11), .ref (na 12), .ref (na 13), .ref (na 14), .ref (na 15), .int (nI na_named), .int (nI na_houses), .int (nI na_quarrels), .int (nI na_cats), .int (nI na_grocers), .int na_gone, .int na_washes, .int na_goneCounts]))]) (va_A [(na 1, .inr (4, [.ref (na 4), .ref (na 5), .ref (na 6), .ref (na 7), .ref (na 8), .ref (na 9), .ref (na 10), .ref (na 11), .ref (na 12), .ref (na 13), .ref (na 14), .ref (na 15), .int (nI na_named), .int (nI na_houses), .int (nI na_quarrels), .int (nI na_cats), .int (nI na_grocers), .int na_gone, .int na_washes, .int na_goneCounts]))] sz)) 0 0 (va_A [(na 1, .inr (4, [.ref (na 4), .ref (na 5), .ref (na 6), .ref (na 7), .ref (na 8), .ref (na 9), .ref (na 10), .ref (na 11), .ref (na 12), .ref (na 13), .ref (na 14), .ref (na 15), .int (nI na_named), .int (nI na_houses), .int (nI na_quarrels), .int (nI na_cats), .int (nI na_grocers), .int na_gone, .int na_washes, .int na_goneCounts]))] sz) := by
  refine Met.ofW (cc := cX4_allHouses) (maxL := 1) (ret := (some .int)) (by decide) rfl ?_
  intro p e s m args below meth c s₁ B hml hv
  obtain ⟨rfl, hsz, hP, hE, hD0⟩ := hv
  have hx := B.exec
  have hb := B.bytes
  have hr := B.returns
  have hts := atoms_spec (ws := vs_allHouses) B.pre
  have hown : s.vm.findClass RX4 = some m.cls := findClass_of_methodNamed B.named
  have hlocks := B.notSynchronized
  subst hsz
  have hD := hD0.self (sz := s.heap.size)
  generalize hAe : va_A [(na 1, .inr (4, [.ref (na 4), .ref (na 5), .ref (na 6), .ref (na 7), .ref (na 8), .ref (na 9), .ref (na 10), .ref (na 11), .ref (na 12), .ref (na 13), .ref (na 14), .ref (na 15), .int (nI na_named), .int (nI na_houses), .int (nI na_quarrels), .int (nI na_cats), .int (nI na_grocers), .int na_gone, .int na_washes, .int na_goneCounts]))] s.heap.size = A at hD ⊢
  have hA : ∀ q : Nat, s.heap.size ≤ q → A q := fun q h => by rw [← hAe]; exact Or.inr h
  have hS : va_S A s.heap s.heap [] := va_S.rf
  have hK := hE.1
  have hP : va_P D vwCl [(na 1, .inr (4, [.ref (na 4), .ref (na 5), .ref (na 6), .ref (na 7), .ref (na 8), .ref (na 9), .ref (na 10), .ref (na 11), .ref (na 12), .ref (na 13), .ref (na 14), .ref (na 15), .int (nI na_named), .int (nI na_houses), .int (nI na_quarrels), .int (nI na_cats), .int (nI na_grocers), .int na_gone, .int na_washes, .int na_goneCounts]))] s.heap := hP
  have hl := lv_entry ([.ref (na 1)]) (n := 1) (Nat.le_of_ble_eq_true rfl)
  rw [lg_entry_eq]
  generalize (lg_sl ([.ref (na 1)]) ++ List.replicate (1 - (lg_sl ([.ref (na 1)])).length) Slot.unset).toArray = ls at hl ⊢
  have hl : lv_has ls 1 [(0, .ref (na 1))] := hl
  refine lv_iconst (v := 1) hx hb dX4_allHouses_0 (by decide) ?_
  refine lv_aload_n hx hb dX4_allHouses_1 rfl (lv_at hl 0 rfl) ?_
  refine va_get (D := D) (ci := 4) (v := .int (nI na_houses)) (C := RX4) (T := TX4) (N := 20) hx hb hts is_allHouses_X4 hown hK hP 0 rfl rfl 13 (by decide) (hts (.fieldLink RX4 60 "SaltStreet$Plan" "houses" "I") (List.mem_of_getElem? (i := 1) rfl)) (fun _ h9 => h9) rfl dX4_allHouses_2 ?_
  refine lv_ishl hx hb dX4_allHouses_5 ?_
  refine lv_topi (fun z1 _ => ?_)
  refine lv_iconst (v := 1) hx hb dX4_allHouses_6 (by decide) ?_
  refine lv_isub hx hb dX4_allHouses_7 ?_
  refine lv_topi (fun z2 _ => ?_)
  have hP9 := hP.sub (ws' := [(na 1, .inr (4, [.ref (na 4), .ref (na 5), .ref (na 6), .ref (na 7), .ref (na 8), .ref (na 9), .ref (na 10), .ref (na 11), .ref (na 12), .ref (na 13), .ref (na 14), .ref (na 15), .int (nI na_named), .int (nI na_houses), .int (nI na_quarrels), .int (nI na_cats), .int (nI na_grocers), .int na_gone, .int na_washes, .int na_goneCounts]))]) [0] rfl
  have hD9 := hD.sub (ws' := [(na 1, .inr (4, [.ref (na 4), .ref (na 5), .ref (na 6), .ref (na 7), .ref (na 8), .ref (na 9), .ref (na 10), .ref (na 11), .ref (na 12), .ref (na 13), .ref (na 14), .ref (na 15), .int (nI na_named), .int (nI na_houses), .int (nI na_quarrels), .int (nI na_cats), .int (nI na_grocers), .int na_gone, .int na_washes, .int na_goneCounts]))]) [0] (by decide) rfl
  exact W.iret (v := z2) hx hb hr (fun t9 ht hW => ⟨⟨z2, (), rfl, trivial, by rw [ht]; exact hP9, hD9⟩, hS.F ht⟩) hS.2.2 dX4_allHouses_8
theorem dX4_allQuarrels_0 : decode cX4_allQuarrels 0 = .ok (.iconst 1, 1) := by decide +kernel
theorem dX4_allQuarrels_1 : decode cX4_allQuarrels 1 = .ok (.aload_n 0, 1) := by decide +kernel
theorem dX4_allQuarrels_2 : decode cX4_allQuarrels 2 = .ok (.getfield 63, 3) := by decide +kernel
theorem dX4_allQuarrels_5 : decode cX4_allQuarrels 5 = .ok (.ishl, 1) := by decide +kernel
theorem dX4_allQuarrels_6 : decode cX4_allQuarrels 6 = .ok (.iconst 1, 1) := by decide +kernel
theorem dX4_allQuarrels_7 : decode cX4_allQuarrels 7 = .ok (.isub, 1) := by decide +kernel
theorem dX4_allQuarrels_8 : decode cX4_allQuarrels 8 = .ok (.ireturn, 1) := by decide +kernel
def vds_allQuarrels : List Cond := [.code yX4_allQuarrels cX4_allQuarrels 1 (some .int), .fieldLink RX4 63 "SaltStreet$Plan" "quarrels" "I"]
def vs_allQuarrels : List Cond := vds_allQuarrels ++ (wsX40 ++ ([] : List Cond))
theorem is_allQuarrels_X4 : ∀ w ∈ wsX40, w ∈ vs_allQuarrels := fun _ h => List.mem_append_right _ (List.mem_append_left _ h)
set_option maxHeartbeats 4000000 in
set_option maxRecDepth 100000 in
theorem s_allQuarrels (l : Launch) (D : va_G) (kc : Nat → ClassId) (sz : Nat) (na : Nat → Nat) (na_named : Nat) (na_houses : Nat) (na_quarrels : Nat) (na_cats : Nat) (na_grocers : Nat) (na_gone : Int32) (na_washes : Int32) (na_goneCounts : Int32) (h_na_named : na_named ≤ 24) (h_na_houses : na_houses ≤ 8) (h_na_quarrels : na_quarrels ≤ 8) (h_na_cats : na_cats ≤ 4) (h_na_grocers : na_grocers ≤ 4) (h_na_goneCounts : na_goneCounts = 0 ∨ na_goneCounts = 1) : Met l yX4_allQuarrels vs_allQuarrels ({ frames := 0, cells := 0, slots := 0, locals := 0 }) (va_Pc [.ref (na 1)] (wPre D kc [(na 1, .inr (4, [.ref (na 4), .ref (na 5), .ref (na 6), .ref (na 7), .ref (na 8), .ref (na 9), .ref (na 10), .ref (na 11), .ref (na 12), .ref (na 13), .ref (na 14), .ref (na 15), .int (nI na_named), .int (nI na_houses), .int (nI na_quarrels), .int (nI na_cats), .int (nI na_grocers), .int na_gone, .int na_washes, .int na_goneCounts]))] sz)) (va_Qi (fun (r : Int32) (_ : Unit) => True) (fun (_ : Unit) (t9 : State) => va_P D vwCl [(na 1, .inr (4, [.ref (na 4), .ref (na 5), .ref (na 6), .ref (na 7), .ref (na 8), .ref (na 9), .ref (na 10), .ref (na 11), .ref (na 12), .ref (na 13), .ref (na 14), .ref (na 15), .int (nI na_named), .int (nI na_houses), .int (nI na_quarrels), .int (nI na_cats), .int (nI na_grocers), .int na_gone, .int na_washes, .int na_goneCounts]))] t9.heap ∧ va_D (va_A [(na 1, .inr (4, [.ref (na 4), .ref (na 5), .ref (na 6), .ref (na 7), .ref (na 8), .ref (na 9), .ref (na 10), .ref (na 11), .ref (na 12), .ref (na 13), .ref (na 14), .ref (na 15), .int (nI na_named), .int (nI na_houses), .int (nI na_quarrels), .int (nI na_cats), .int (nI na_grocers), .int na_gone, .int na_washes, .int na_goneCounts]))] sz) [(na 1, .inr (4, [.ref (na 4), .ref (na 5), .ref (na 6), .ref (na 7), .ref (na 8), .ref (na 9), .ref (na 10), .ref (na 11), .ref (na 12), .ref (na 13), .ref (na 14), .ref (na 15), .int (nI na_named), .int (nI na_houses), .int (nI na_quarrels), .int (nI na_cats), .int (nI na_grocers), .int na_gone, .int na_washes, .int na_goneCounts]))]) (va_A [(na 1, .inr (4, [.ref (na 4), .ref (na 5), .ref (na 6), .ref (na 7), .ref (na 8), .ref (na 9), .ref (na 10), .ref (na 11), .ref (na 12), .ref (na 13), .ref (na 14), .ref (na 15), .int (nI na_named), .int (nI na_houses), .int (nI na_quarrels), .int (nI na_cats), .int (nI na_grocers), .int na_gone, .int na_washes, .int na_goneCounts]))] sz)) 0 0 (va_A [(na 1, .inr (4, [.ref (na 4), .ref (na 5), .ref (na 6), .ref (na 7), .ref (na 8), .ref (na 9), .ref (na 10), .ref (na 11), .ref (na 12), .ref (na 13), .ref (na 14), .ref (na 15), .int (nI na_named), .int (nI na_houses), .int (nI na_quarrels), .int (nI na_cats), .int (nI na_grocers), .int na_gone, .int na_washes, .int na_goneCounts]))] sz) := by
  refine Met.ofW (cc := cX4_allQuarrels) (maxL := 1) (ret := (some .int)) (by decide) rfl ?_
  intro p e s m args below meth c s₁ B hml hv
  obtain ⟨rfl, hsz, hP, hE, hD0⟩ := hv
  have hx := B.exec
  have hb := B.bytes
  have hr := B.returns
  have hts := atoms_spec (ws := vs_allQuarrels) B.pre
  have hown : s.vm.findClass RX4 = some m.cls := findClass_of_methodNamed B.named
  have hlocks := B.notSynchronized
  subst hsz
  have hD := hD0.self (sz := s.heap.size)
  generalize hAe : va_A [(na 1, .inr (4, [.ref (na 4), .ref (na 5), .ref (na 6), .ref (na 7), .ref (na 8), .ref (na 9), .ref (na 10), .ref (na 11), .ref (na 12), .ref (na 13), .ref (na 14), .ref (na 15), .int (nI na_named), .int (nI na_houses), .int (nI na_quarrels), .int (nI na_cats), .int (nI na_grocers), .int na_gone, .int na_washes, .int na_goneCounts]))] s.heap.size = A at hD ⊢
  have hA : ∀ q : Nat, s.heap.size ≤ q → A q := fun q h => by rw [← hAe]; exact Or.inr h
  have hS : va_S A s.heap s.heap [] := va_S.rf
  have hK := hE.1
  have hP : va_P D vwCl [(na 1, .inr (4, [.ref (na 4), .ref (na 5), .ref (na 6), .ref (na 7), .ref (na 8), .ref (na 9), .ref (na 10), .ref (na 11), .ref (na 12), .ref (na 13), .ref (na 14), .ref (na 15), .int (nI na_named), .int (nI na_houses), .int (nI na_quarrels), .int (nI na_cats), .int (nI na_grocers), .int na_gone, .int na_washes, .int na_goneCounts]))] s.heap := hP
  have hl := lv_entry ([.ref (na 1)]) (n := 1) (Nat.le_of_ble_eq_true rfl)
  rw [lg_entry_eq]
  generalize (lg_sl ([.ref (na 1)]) ++ List.replicate (1 - (lg_sl ([.ref (na 1)])).length) Slot.unset).toArray = ls at hl ⊢
  have hl : lv_has ls 1 [(0, .ref (na 1))] := hl
  refine lv_iconst (v := 1) hx hb dX4_allQuarrels_0 (by decide) ?_
  refine lv_aload_n hx hb dX4_allQuarrels_1 rfl (lv_at hl 0 rfl) ?_
  refine va_get (D := D) (ci := 4) (v := .int (nI na_quarrels)) (C := RX4) (T := TX4) (N := 20) hx hb hts is_allQuarrels_X4 hown hK hP 0 rfl rfl 14 (by decide) (hts (.fieldLink RX4 63 "SaltStreet$Plan" "quarrels" "I") (List.mem_of_getElem? (i := 1) rfl)) (fun _ h9 => h9) rfl dX4_allQuarrels_2 ?_
  refine lv_ishl hx hb dX4_allQuarrels_5 ?_
  refine lv_topi (fun z1 _ => ?_)
  refine lv_iconst (v := 1) hx hb dX4_allQuarrels_6 (by decide) ?_
  refine lv_isub hx hb dX4_allQuarrels_7 ?_
  refine lv_topi (fun z2 _ => ?_)
  have hP9 := hP.sub (ws' := [(na 1, .inr (4, [.ref (na 4), .ref (na 5), .ref (na 6), .ref (na 7), .ref (na 8), .ref (na 9), .ref (na 10), .ref (na 11), .ref (na 12), .ref (na 13), .ref (na 14), .ref (na 15), .int (nI na_named), .int (nI na_houses), .int (nI na_quarrels), .int (nI na_cats), .int (nI na_grocers), .int na_gone, .int na_washes, .int na_goneCounts]))]) [0] rfl
  have hD9 := hD.sub (ws' := [(na 1, .inr (4, [.ref (na 4), .ref (na 5), .ref (na 6), .ref (na 7), .ref (na 8), .ref (na 9), .ref (na 10), .ref (na 11), .ref (na 12), .ref (na 13), .ref (na 14), .ref (na 15), .int (nI na_named), .int (nI na_houses), .int (nI na_quarrels), .int (nI na_cats), .int (nI na_grocers), .int na_gone, .int na_washes, .int na_goneCounts]))]) [0] (by decide) rfl
  exact W.iret (v := z2) hx hb hr (fun t9 ht hW => ⟨⟨z2, (), rfl, trivial, by rw [ht]; exact hP9, hD9⟩, hS.F ht⟩) hS.2.2 dX4_allQuarrels_8
theorem dX2_lying_0 : decode cX2_lying 0 = .ok (.aload_n 0, 1) := by decide +kernel
theorem dX2_lying_1 : decode cX2_lying 1 = .ok (.getfield 9, 3) := by decide +kernel
theorem dX2_lying_4 : decode cX2_lying 4 = .ok (.iload_n 1, 1) := by decide +kernel
theorem dX2_lying_5 : decode cX2_lying 5 = .ok (.iaload, 1) := by decide +kernel
theorem dX2_lying_6 : decode cX2_lying 6 = .ok (.aload_n 0, 1) := by decide +kernel
theorem dX2_lying_7 : decode cX2_lying 7 = .ok (.getfield 15, 3) := by decide +kernel
theorem dX2_lying_10 : decode cX2_lying 10 = .ok (.iload_n 1, 1) := by decide +kernel
theorem dX2_lying_11 : decode cX2_lying 11 = .ok (.iaload, 1) := by decide +kernel
theorem dX2_lying_12 : decode cX2_lying 12 = .ok (.iadd, 1) := by decide +kernel
theorem dX2_lying_13 : decode cX2_lying 13 = .ok (.ireturn, 1) := by decide +kernel
def vds_lying : List Cond := [.code yX2_lying cX2_lying 2 (some .int), .fieldLink RX2 9 "SaltStreet$Ground" "salt" "[I", .fieldLink RX2 15 "SaltStreet$Ground" "sugar" "[I"]
def vs_lying : List Cond := vds_lying ++ (wsX20 ++ ([] : List Cond))
theorem is_lying_X2 : ∀ w ∈ wsX20, w ∈ vs_lying := fun _ h => List.mem_append_right _ (List.mem_append_left _ h)
set_option maxHeartbeats 4000000 in
set_option maxRecDepth 100000 in
theorem s_lying (l : Launch) (D : va_G) (kc : Nat → ClassId) (sz : Nat) (ga : Nat → Nat) (ga_over : Int32) (ga_day : Int32) (ga_rained : Int32) (ga_purse : Int32) (ga_bought : Int32) (ga_washed : Int32) (ga_swept : Int32) (ga_melted : Int32) (ga_salt : Nat → Int32) (ga_sugar : Nat → Int32) (a0 : Nat) (h_ga_rained : ga_rained = 0 ∨ ga_rained = 1) (h_a0 : a0 ≤ 7) : Met l yX2_lying vs_lying ({ frames := 0, cells := 0, slots := 0, locals := 0 }) (va_Pc [.ref (ga 2), .int (nI a0)] (wPre D kc [(ga 2, .inr (2, [.ref (ga 16), .ref (ga 17), .ref (ga 18), .ref (ga 19), .ref (ga 20), .int ga_over, .int ga_day, .int ga_rained, .int ga_purse, .int ga_bought, .int ga_washed, .int ga_swept, .int ga_melted])), (ga 16, .inl (kc 0, 8, .inl ga_salt)), (ga 17, .inl (kc 0, 8, .inl ga_sugar))] sz)) (va_Qi (fun (r : Int32) (_ : Unit) => True) (fun (_ : Unit) (t9 : State) => va_P D vwCl [(ga 2, .inr (2, [.ref (ga 16), .ref (ga 17), .ref (ga 18), .ref (ga 19), .ref (ga 20), .int ga_over, .int ga_day, .int ga_rained, .int ga_purse, .int ga_bought, .int ga_washed, .int ga_swept, .int ga_melted])), (ga 16, .inl (kc 0, 8, .inl ga_salt)), (ga 17, .inl (kc 0, 8, .inl ga_sugar))] t9.heap ∧ va_D (va_A [(ga 2, .inr (2, [.ref (ga 16), .ref (ga 17), .ref (ga 18), .ref (ga 19), .ref (ga 20), .int ga_over, .int ga_day, .int ga_rained, .int ga_purse, .int ga_bought, .int ga_washed, .int ga_swept, .int ga_melted])), (ga 16, .inl (kc 0, 8, .inl ga_salt)), (ga 17, .inl (kc 0, 8, .inl ga_sugar))] sz) [(ga 2, .inr (2, [.ref (ga 16), .ref (ga 17), .ref (ga 18), .ref (ga 19), .ref (ga 20), .int ga_over, .int ga_day, .int ga_rained, .int ga_purse, .int ga_bought, .int ga_washed, .int ga_swept, .int ga_melted])), (ga 16, .inl (kc 0, 8, .inl ga_salt)), (ga 17, .inl (kc 0, 8, .inl ga_sugar))]) (va_A [(ga 2, .inr (2, [.ref (ga 16), .ref (ga 17), .ref (ga 18), .ref (ga 19), .ref (ga 20), .int ga_over, .int ga_day, .int ga_rained, .int ga_purse, .int ga_bought, .int ga_washed, .int ga_swept, .int ga_melted])), (ga 16, .inl (kc 0, 8, .inl ga_salt)), (ga 17, .inl (kc 0, 8, .inl ga_sugar))] sz)) 0 0 (va_A [(ga 2, .inr (2, [.ref (ga 16), .ref (ga 17), .ref (ga 18), .ref (ga 19), .ref (ga 20), .int ga_over, .int ga_day, .int ga_rained, .int ga_purse, .int ga_bought, .int ga_washed, .int ga_swept, .int ga_melted])), (ga 16, .inl (kc 0, 8, .inl ga_salt)), (ga 17, .inl (kc 0, 8, .inl ga_sugar))] sz) := by
  refine Met.ofW (cc := cX2_lying) (maxL := 2) (ret := (some .int)) (by decide) rfl ?_
  intro p e s m args below meth c s₁ B hml hv
  obtain ⟨rfl, hsz, hP, hE, hD0⟩ := hv
  have hx := B.exec
  have hb := B.bytes
  have hr := B.returns
  have hts := atoms_spec (ws := vs_lying) B.pre
  have hown : s.vm.findClass RX2 = some m.cls := findClass_of_methodNamed B.named
  have hlocks := B.notSynchronized
  subst hsz
  have hD := hD0.self (sz := s.heap.size)
  generalize hAe : va_A [(ga 2, .inr (2, [.ref (ga 16), .ref (ga 17), .ref (ga 18), .ref (ga 19), .ref (ga 20), .int ga_over, .int ga_day, .int ga_rained, .int ga_purse, .int ga_bought, .int ga_washed, .int ga_swept, .int ga_melted])), (ga 16, .inl (kc 0, 8, .inl ga_salt)), (ga 17, .inl (kc 0, 8, .inl ga_sugar))] s.heap.size = A at hD ⊢
  have hA : ∀ q : Nat, s.heap.size ≤ q → A q := fun q h => by rw [← hAe]; exact Or.inr h
  have hS : va_S A s.heap s.heap [] := va_S.rf
  have hK := hE.1
  have hP : va_P D vwCl [(ga 2, .inr (2, [.ref (ga 16), .ref (ga 17), .ref (ga 18), .ref (ga 19), .ref (ga 20), .int ga_over, .int ga_day, .int ga_rained, .int ga_purse, .int ga_bought, .int ga_washed, .int ga_swept, .int ga_melted])), (ga 16, .inl (kc 0, 8, .inl ga_salt)), (ga 17, .inl (kc 0, 8, .inl ga_sugar))] s.heap := hP
  have hl := lv_entry ([.ref (ga 2), .int (nI a0)]) (n := 2) (Nat.le_of_ble_eq_true rfl)
  rw [lg_entry_eq]
  generalize (lg_sl ([.ref (ga 2), .int (nI a0)]) ++ List.replicate (2 - (lg_sl ([.ref (ga 2), .int (nI a0)])).length) Slot.unset).toArray = ls at hl ⊢
  have hl : lv_has ls 2 [(0, .ref (ga 2)), (1, .int (nI a0))] := hl
  refine lv_aload_n hx hb dX2_lying_0 rfl (lv_at hl 0 rfl) ?_
  refine va_get (D := D) (ci := 2) (v := .ref (ga 16)) (C := RX2) (T := TX2) (N := 13) hx hb hts is_lying_X2 hown hK hP 0 rfl rfl 0 (by decide) (hts (.fieldLink RX2 9 "SaltStreet$Ground" "salt" "[I") (List.mem_of_getElem? (i := 1) rfl)) (fun _ h9 => h9) rfl dX2_lying_1 ?_
  refine lv_iload_n hx hb dX2_lying_4 rfl (lv_at hl 1 rfl) ?_
  refine va_iald hx hb hK hP 1 0 (f := ga_salt) rfl rfl (vp_in_nI (by omega) (by decide)) dX2_lying_5 ?_
  refine lv_topi (fun z1 _ => ?_)
  refine lv_aload_n hx hb dX2_lying_6 rfl (lv_at hl 0 rfl) ?_
  refine va_get (D := D) (ci := 2) (v := .ref (ga 17)) (C := RX2) (T := TX2) (N := 13) hx hb hts is_lying_X2 hown hK hP 0 rfl rfl 1 (by decide) (hts (.fieldLink RX2 15 "SaltStreet$Ground" "sugar" "[I") (List.mem_of_getElem? (i := 2) rfl)) (fun _ h9 => h9) rfl dX2_lying_7 ?_
  refine lv_iload_n hx hb dX2_lying_10 rfl (lv_at hl 1 rfl) ?_
  refine va_iald hx hb hK hP 2 0 (f := ga_sugar) rfl rfl (vp_in_nI (by omega) (by decide)) dX2_lying_11 ?_
  refine lv_topi (fun z2 _ => ?_)
  refine lv_iadd hx hb dX2_lying_12 ?_
  refine lv_topi (fun z3 _ => ?_)
  have hP9 := hP.sub (ws' := [(ga 2, .inr (2, [.ref (ga 16), .ref (ga 17), .ref (ga 18), .ref (ga 19), .ref (ga 20), .int ga_over, .int ga_day, .int ga_rained, .int ga_purse, .int ga_bought, .int ga_washed, .int ga_swept, .int ga_melted])), (ga 16, .inl (kc 0, 8, .inl ga_salt)), (ga 17, .inl (kc 0, 8, .inl ga_sugar))]) [0, 1, 2] rfl
  have hD9 := hD.sub (ws' := [(ga 2, .inr (2, [.ref (ga 16), .ref (ga 17), .ref (ga 18), .ref (ga 19), .ref (ga 20), .int ga_over, .int ga_day, .int ga_rained, .int ga_purse, .int ga_bought, .int ga_washed, .int ga_swept, .int ga_melted])), (ga 16, .inl (kc 0, 8, .inl ga_salt)), (ga 17, .inl (kc 0, 8, .inl ga_sugar))]) [0, 1, 2] (by decide) rfl
  exact W.iret (v := z3) hx hb hr (fun t9 ht hW => ⟨⟨z3, (), rfl, trivial, by rw [ht]; exact hP9, hD9⟩, hS.F ht⟩) hS.2.2 dX2_lying_13
theorem dX2_inSight_0 : decode cX2_inSight 0 = .ok (.aload_n 0, 1) := by decide +kernel
theorem dX2_inSight_1 : decode cX2_inSight 1 = .ok (.getfield 18, 3) := by decide +kernel
theorem dX2_inSight_4 : decode cX2_inSight 4 = .ok (.iload_n 1, 1) := by decide +kernel
theorem dX2_inSight_5 : decode cX2_inSight 5 = .ok (.iaload, 1) := by decide +kernel
theorem dX2_inSight_6 : decode cX2_inSight 6 = .ok (.ifCond .le 7, 3) := by decide +kernel
theorem dX2_inSight_13 : decode cX2_inSight 13 = .ok (.aload_n 0, 1) := by decide +kernel
theorem dX2_inSight_14 : decode cX2_inSight 14 = .ok (.iload_n 1, 1) := by decide +kernel
theorem dX2_inSight_15 : decode cX2_inSight 15 = .ok (.invokevirtual 61, 3) := by decide +kernel
theorem dX2_inSight_18 : decode cX2_inSight 18 = .ok (.ireturn, 1) := by decide +kernel
theorem dX2_inSight_9 : decode cX2_inSight 9 = .ok (.iconst 0, 1) := by decide +kernel
theorem dX2_inSight_10 : decode cX2_inSight 10 = .ok (.goto 8, 3) := by decide +kernel
def vds_inSight : List Cond := [.code yX2_inSight cX2_inSight 2 (some .int), .fieldLink RX2 18 "SaltStreet$Ground" "snow" "[I", .methodLink RX2 61 yX2_lying, .code yX2_lying cX2_lying 2 (some .int), .fieldLink RX2 9 "SaltStreet$Ground" "salt" "[I", .fieldLink RX2 15 "SaltStreet$Ground" "sugar" "[I", .instanceMethod yX2_lying, .selects RX2 yX2_lying yX2_lying, .initialized RX2]
def vs_inSight : List Cond := vds_inSight ++ (wsX20 ++ ([] : List Cond))
theorem is_inSight_X2 : ∀ w ∈ wsX20, w ∈ vs_inSight := fun _ h => List.mem_append_right _ (List.mem_append_left _ h)
set_option maxRecDepth 20000 in
theorem gs_inSight_61_s_lying : GoodIn vs_inSight (wsV RX2 61 RX2 yX2_lying vs_lying) := (goodIn_app (goodIn_r _ [2, 6, 7, 8] rfl (by decide +kernel)) (goodIn_app (goodIn_r vds_lying [3, 4, 5] rfl (by decide +kernel)) (goodIn_app (goodIn_sub is_inSight_X2 gdX2) goodIn_nil)))
set_option maxHeartbeats 4000000 in
set_option maxRecDepth 100000 in
theorem s_inSight (l : Launch) (D : va_G) (kc : Nat → ClassId) (sz : Nat) (ga : Nat → Nat) (ga_over : Int32) (ga_day : Int32) (ga_rained : Int32) (ga_purse : Int32) (ga_bought : Int32) (ga_washed : Int32) (ga_swept : Int32) (ga_melted : Int32) (ga_salt : Nat → Int32) (ga_sugar : Nat → Int32) (ga_snow : Nat → Int32) (a0 : Nat) (h_ga_rained : ga_rained = 0 ∨ ga_rained = 1) (h_a0 : a0 ≤ 7) : Met l yX2_inSight vs_inSight ({ frames := 1, cells := 0, slots := 0, locals := 21 }) (va_Pc [.ref (ga 2), .int (nI a0)] (wPre D kc [(ga 2, .inr (2, [.ref (ga 16), .ref (ga 17), .ref (ga 18), .ref (ga 19), .ref (ga 20), .int ga_over, .int ga_day, .int ga_rained, .int ga_purse, .int ga_bought, .int ga_washed, .int ga_swept, .int ga_melted])), (ga 16, .inl (kc 0, 8, .inl ga_salt)), (ga 17, .inl (kc 0, 8, .inl ga_sugar)), (ga 18, .inl (kc 0, 8, .inl ga_snow))] sz)) (va_Qi (fun (r : Int32) (_ : Unit) => True) (fun (_ : Unit) (t9 : State) => va_P D vwCl [(ga 2, .inr (2, [.ref (ga 16), .ref (ga 17), .ref (ga 18), .ref (ga 19), .ref (ga 20), .int ga_over, .int ga_day, .int ga_rained, .int ga_purse, .int ga_bought, .int ga_washed, .int ga_swept, .int ga_melted])), (ga 16, .inl (kc 0, 8, .inl ga_salt)), (ga 17, .inl (kc 0, 8, .inl ga_sugar)), (ga 18, .inl (kc 0, 8, .inl ga_snow))] t9.heap ∧ va_D (va_A [(ga 2, .inr (2, [.ref (ga 16), .ref (ga 17), .ref (ga 18), .ref (ga 19), .ref (ga 20), .int ga_over, .int ga_day, .int ga_rained, .int ga_purse, .int ga_bought, .int ga_washed, .int ga_swept, .int ga_melted])), (ga 16, .inl (kc 0, 8, .inl ga_salt)), (ga 17, .inl (kc 0, 8, .inl ga_sugar)), (ga 18, .inl (kc 0, 8, .inl ga_snow))] sz) [(ga 2, .inr (2, [.ref (ga 16), .ref (ga 17), .ref (ga 18), .ref (ga 19), .ref (ga 20), .int ga_over, .int ga_day, .int ga_rained, .int ga_purse, .int ga_bought, .int ga_washed, .int ga_swept, .int ga_melted])), (ga 16, .inl (kc 0, 8, .inl ga_salt)), (ga 17, .inl (kc 0, 8, .inl ga_sugar)), (ga 18, .inl (kc 0, 8, .inl ga_snow))]) (va_A [(ga 2, .inr (2, [.ref (ga 16), .ref (ga 17), .ref (ga 18), .ref (ga 19), .ref (ga 20), .int ga_over, .int ga_day, .int ga_rained, .int ga_purse, .int ga_bought, .int ga_washed, .int ga_swept, .int ga_melted])), (ga 16, .inl (kc 0, 8, .inl ga_salt)), (ga 17, .inl (kc 0, 8, .inl ga_sugar)), (ga 18, .inl (kc 0, 8, .inl ga_snow))] sz)) 0 0 (va_A [(ga 2, .inr (2, [.ref (ga 16), .ref (ga 17), .ref (ga 18), .ref (ga 19), .ref (ga 20), .int ga_over, .int ga_day, .int ga_rained, .int ga_purse, .int ga_bought, .int ga_washed, .int ga_swept, .int ga_melted])), (ga 16, .inl (kc 0, 8, .inl ga_salt)), (ga 17, .inl (kc 0, 8, .inl ga_sugar)), (ga 18, .inl (kc 0, 8, .inl ga_snow))] sz) := by
  refine Met.ofW (cc := cX2_inSight) (maxL := 2) (ret := (some .int)) (by decide) rfl ?_
  intro p e s m args below meth c s₁ B hml hv
  obtain ⟨rfl, hsz, hP, hE, hD0⟩ := hv
  have hx := B.exec
  have hb := B.bytes
  have hr := B.returns
  have hts := atoms_spec (ws := vs_inSight) B.pre
  have hown : s.vm.findClass RX2 = some m.cls := findClass_of_methodNamed B.named
  have hlocks := B.notSynchronized
  subst hsz
  have hD := hD0.self (sz := s.heap.size)
  generalize hAe : va_A [(ga 2, .inr (2, [.ref (ga 16), .ref (ga 17), .ref (ga 18), .ref (ga 19), .ref (ga 20), .int ga_over, .int ga_day, .int ga_rained, .int ga_purse, .int ga_bought, .int ga_washed, .int ga_swept, .int ga_melted])), (ga 16, .inl (kc 0, 8, .inl ga_salt)), (ga 17, .inl (kc 0, 8, .inl ga_sugar)), (ga 18, .inl (kc 0, 8, .inl ga_snow))] s.heap.size = A at hD ⊢
  have hA : ∀ q : Nat, s.heap.size ≤ q → A q := fun q h => by rw [← hAe]; exact Or.inr h
  have hS : va_S A s.heap s.heap [] := va_S.rf
  have hK := hE.1
  have hP : va_P D vwCl [(ga 2, .inr (2, [.ref (ga 16), .ref (ga 17), .ref (ga 18), .ref (ga 19), .ref (ga 20), .int ga_over, .int ga_day, .int ga_rained, .int ga_purse, .int ga_bought, .int ga_washed, .int ga_swept, .int ga_melted])), (ga 16, .inl (kc 0, 8, .inl ga_salt)), (ga 17, .inl (kc 0, 8, .inl ga_sugar)), (ga 18, .inl (kc 0, 8, .inl ga_snow))] s.heap := hP
  have hl := lv_entry ([.ref (ga 2), .int (nI a0)]) (n := 2) (Nat.le_of_ble_eq_true rfl)
  rw [lg_entry_eq]
  generalize (lg_sl ([.ref (ga 2), .int (nI a0)]) ++ List.replicate (2 - (lg_sl ([.ref (ga 2), .int (nI a0)])).length) Slot.unset).toArray = ls at hl ⊢
  have hl : lv_has ls 2 [(0, .ref (ga 2)), (1, .int (nI a0))] := hl
  refine lv_aload_n hx hb dX2_inSight_0 rfl (lv_at hl 0 rfl) ?_
  refine va_get (D := D) (ci := 2) (v := .ref (ga 18)) (C := RX2) (T := TX2) (N := 13) hx hb hts is_inSight_X2 hown hK hP 0 rfl rfl 2 (by decide) (hts (.fieldLink RX2 18 "SaltStreet$Ground" "snow" "[I") (List.mem_of_getElem? (i := 1) rfl)) (fun _ h9 => h9) rfl dX2_inSight_1 ?_
  refine lv_iload_n hx hb dX2_inSight_4 rfl (lv_at hl 1 rfl) ?_
  refine va_iald hx hb hK hP 3 0 (f := ga_snow) rfl rfl (vp_in_nI (by omega) (by decide)) dX2_inSight_5 ?_
  refine lv_topi (fun z1 _ => ?_)
  refine lv_if_le (tgt := 13) hx hb dX2_inSight_6 (by decide) (fun c2 => ?_) (fun c2 => ?_)
  · refine lv_aload_n hx hb dX2_inSight_13 rfl (lv_at hl 0 rfl) ?_
    refine lv_iload_n hx hb dX2_inSight_14 rfl (lv_at hl 1 rfl) ?_
    have hPc := hP.sub (ws' := [(ga 2, .inr (2, [.ref (ga 16), .ref (ga 17), .ref (ga 18), .ref (ga 19), .ref (ga 20), .int ga_over, .int ga_day, .int ga_rained, .int ga_purse, .int ga_bought, .int ga_washed, .int ga_swept, .int ga_melted])), (ga 16, .inl (kc 0, 8, .inl ga_salt)), (ga 17, .inl (kc 0, 8, .inl ga_sugar))]) [0, 1, 2] rfl
    have hDc := hD.sub (ws' := [(ga 2, .inr (2, [.ref (ga 16), .ref (ga 17), .ref (ga 18), .ref (ga 19), .ref (ga 20), .int ga_over, .int ga_day, .int ga_rained, .int ga_purse, .int ga_bought, .int ga_washed, .int ga_swept, .int ga_melted])), (ga 16, .inl (kc 0, 8, .inl ga_salt)), (ga 17, .inl (kc 0, 8, .inl ga_sugar))]) [0, 1, 2] (by decide) rfl
    have hFc := va_free (wc := [(ga 2, .inr (2, [.ref (ga 16), .ref (ga 17), .ref (ga 18), .ref (ga 19), .ref (ga 20), .int ga_over, .int ga_day, .int ga_rained, .int ga_purse, .int ga_bought, .int ga_washed, .int ga_swept, .int ga_melted])), (ga 16, .inl (kc 0, 8, .inl ga_salt)), (ga 17, .inl (kc 0, 8, .inl ga_sugar))]) hD hS hA [0, 1, 2] rfl
    refine va_calli (va_runV (As := [.int (nI a0)]) (rest := []) ⟨hx, hb, hml, hown, hts⟩ (s_lying l D kc s.heap.size ga ga_over ga_day ga_rained ga_purse ga_bought ga_washed ga_swept ga_melted ga_salt ga_sugar a0 h_ga_rained (by omega)) (cwV 1 hts gs_inSight_61_s_lying rfl rfl rfl (by decide +kernel) ⟨Nat.le_of_ble_eq_true rfl, Nat.le_of_ble_eq_true rfl⟩) (preV_ok hPc hDc hE (ci := 2) (q0 := 0) rfl rfl) rfl rfl hl.1 rfl (lv_room (Nat.le_of_ble_eq_true rfl)) dX2_inSight_15 ⟨Nat.le_of_ble_eq_true rfl, Nat.le_of_ble_eq_true rfl⟩) hS (fun q _ h => hFc q h) hFc (fun r3 u9 t9 H locs ht hvm hw hB hz1 hk1 hS => ?_)
    obtain ⟨hP1, hD1⟩ := hB
    rw [ht] at hP1
    obtain ⟨hP, hD⟩ := va_join (wr := [(ga 18, .inl (kc 0, 8, .inl ga_snow))]) (w1 := [(ga 2, .inr (2, [.ref (ga 16), .ref (ga 17), .ref (ga 18), .ref (ga 19), .ref (ga 20), .int ga_over, .int ga_day, .int ga_rained, .int ga_purse, .int ga_bought, .int ga_washed, .int ga_swept, .int ga_melted])), (ga 16, .inl (kc 0, 8, .inl ga_salt)), (ga 17, .inl (kc 0, 8, .inl ga_sugar))]) hP hD [0, 1, 2] [3] rfl rfl (by decide) (by decide) hk1 hFc hP1 hD1
    have hP : va_P D vwCl [(ga 18, .inl (kc 0, 8, .inl ga_snow)), (ga 2, .inr (2, [.ref (ga 16), .ref (ga 17), .ref (ga 18), .ref (ga 19), .ref (ga 20), .int ga_over, .int ga_day, .int ga_rained, .int ga_purse, .int ga_bought, .int ga_washed, .int ga_swept, .int ga_melted])), (ga 16, .inl (kc 0, 8, .inl ga_salt)), (ga 17, .inl (kc 0, 8, .inl ga_sugar))] H := hP
    have hD : va_D A [(ga 18, .inl (kc 0, 8, .inl ga_snow)), (ga 2, .inr (2, [.ref (ga 16), .ref (ga 17), .ref (ga 18), .ref (ga 19), .ref (ga 20), .int ga_over, .int ga_day, .int ga_rained, .int ga_purse, .int ga_bought, .int ga_washed, .int ga_swept, .int ga_melted])), (ga 16, .inl (kc 0, 8, .inl ga_salt)), (ga 17, .inl (kc 0, 8, .inl ga_sugar))] := hD
    have hP9 := hP.sub (ws' := [(ga 2, .inr (2, [.ref (ga 16), .ref (ga 17), .ref (ga 18), .ref (ga 19), .ref (ga 20), .int ga_over, .int ga_day, .int ga_rained, .int ga_purse, .int ga_bought, .int ga_washed, .int ga_swept, .int ga_melted])), (ga 16, .inl (kc 0, 8, .inl ga_salt)), (ga 17, .inl (kc 0, 8, .inl ga_sugar)), (ga 18, .inl (kc 0, 8, .inl ga_snow))]) [1, 2, 3, 0] rfl
    have hD9 := hD.sub (ws' := [(ga 2, .inr (2, [.ref (ga 16), .ref (ga 17), .ref (ga 18), .ref (ga 19), .ref (ga 20), .int ga_over, .int ga_day, .int ga_rained, .int ga_purse, .int ga_bought, .int ga_washed, .int ga_swept, .int ga_melted])), (ga 16, .inl (kc 0, 8, .inl ga_salt)), (ga 17, .inl (kc 0, 8, .inl ga_sugar)), (ga 18, .inl (kc 0, 8, .inl ga_snow))]) [1, 2, 3, 0] (by decide) rfl
    exact W.iret (v := r3) hx hb hr (fun t9 ht hW => ⟨⟨r3, (), rfl, trivial, by rw [ht]; exact hP9, hD9⟩, hS.F ht⟩) hS.2.2 dX2_inSight_18
  · refine lv_iconst (v := 0) hx hb dX2_inSight_9 (by decide) ?_
    refine lv_goto (tgt := 18) hx hb dX2_inSight_10 (by decide) ?_
    have hP9 := hP.sub (ws' := [(ga 2, .inr (2, [.ref (ga 16), .ref (ga 17), .ref (ga 18), .ref (ga 19), .ref (ga 20), .int ga_over, .int ga_day, .int ga_rained, .int ga_purse, .int ga_bought, .int ga_washed, .int ga_swept, .int ga_melted])), (ga 16, .inl (kc 0, 8, .inl ga_salt)), (ga 17, .inl (kc 0, 8, .inl ga_sugar)), (ga 18, .inl (kc 0, 8, .inl ga_snow))]) [0, 1, 2, 3] rfl
    have hD9 := hD.sub (ws' := [(ga 2, .inr (2, [.ref (ga 16), .ref (ga 17), .ref (ga 18), .ref (ga 19), .ref (ga 20), .int ga_over, .int ga_day, .int ga_rained, .int ga_purse, .int ga_bought, .int ga_washed, .int ga_swept, .int ga_melted])), (ga 16, .inl (kc 0, 8, .inl ga_salt)), (ga 17, .inl (kc 0, 8, .inl ga_sugar)), (ga 18, .inl (kc 0, 8, .inl ga_snow))]) [0, 1, 2, 3] (by decide) rfl
    exact W.iret (v := 0) hx hb hr (fun t9 ht hW => ⟨⟨0, (), rfl, trivial, by rw [ht]; exact hP9, hD9⟩, hS.F ht⟩) hS.2.2 dX2_inSight_18
theorem dX2_hasRoom_0 : decode cX2_hasRoom 0 = .ok (.aload_n 0, 1) := by decide +kernel
theorem dX2_hasRoom_1 : decode cX2_hasRoom 1 = .ok (.iload_n 1, 1) := by decide +kernel
theorem dX2_hasRoom_2 : decode cX2_hasRoom 2 = .ok (.invokevirtual 61, 3) := by decide +kernel
theorem dX2_hasRoom_5 : decode cX2_hasRoom 5 = .ok (.iload_n 2, 1) := by decide +kernel
theorem dX2_hasRoom_6 : decode cX2_hasRoom 6 = .ok (.iadd, 1) := by decide +kernel
theorem dX2_hasRoom_7 : decode cX2_hasRoom 7 = .ok (.sipush 9999, 3) := by decide +kernel
theorem dX2_hasRoom_10 : decode cX2_hasRoom 10 = .ok (.if_icmp .gt 7, 3) := by decide +kernel
theorem dX2_hasRoom_17 : decode cX2_hasRoom 17 = .ok (.iconst 0, 1) := by decide +kernel
theorem dX2_hasRoom_18 : decode cX2_hasRoom 18 = .ok (.ireturn, 1) := by decide +kernel
theorem dX2_hasRoom_13 : decode cX2_hasRoom 13 = .ok (.iconst 1, 1) := by decide +kernel
theorem dX2_hasRoom_14 : decode cX2_hasRoom 14 = .ok (.goto 4, 3) := by decide +kernel
def vds_hasRoom : List Cond := [.code yX2_hasRoom cX2_hasRoom 3 (some .boolean), .methodLink RX2 61 yX2_lying, .code yX2_lying cX2_lying 2 (some .int), .fieldLink RX2 9 "SaltStreet$Ground" "salt" "[I", .fieldLink RX2 15 "SaltStreet$Ground" "sugar" "[I", .instanceMethod yX2_lying, .selects RX2 yX2_lying yX2_lying, .initialized RX2]
def vs_hasRoom : List Cond := vds_hasRoom ++ (wsX20 ++ ([] : List Cond))
theorem is_hasRoom_X2 : ∀ w ∈ wsX20, w ∈ vs_hasRoom := fun _ h => List.mem_append_right _ (List.mem_append_left _ h)
set_option maxRecDepth 20000 in
theorem gs_hasRoom_61_s_lying : GoodIn vs_hasRoom (wsV RX2 61 RX2 yX2_lying vs_lying) := (goodIn_app (goodIn_r _ [1, 5, 6, 7] rfl (by decide +kernel)) (goodIn_app (goodIn_r vds_lying [2, 3, 4] rfl (by decide +kernel)) (goodIn_app (goodIn_sub is_hasRoom_X2 gdX2) goodIn_nil)))
set_option maxHeartbeats 4000000 in
set_option maxRecDepth 100000 in
theorem s_hasRoom (l : Launch) (D : va_G) (kc : Nat → ClassId) (sz : Nat) (ga : Nat → Nat) (ga_over : Int32) (ga_day : Int32) (ga_rained : Int32) (ga_purse : Int32) (ga_bought : Int32) (ga_washed : Int32) (ga_swept : Int32) (ga_melted : Int32) (ga_salt : Nat → Int32) (ga_sugar : Nat → Int32) (a0 : Nat) (a1 : Int32) (h_ga_rained : ga_rained = 0 ∨ ga_rained = 1) (h_a0 : a0 ≤ 7) : Met l yX2_hasRoom vs_hasRoom ({ frames := 1, cells := 0, slots := 0, locals := 21 }) (va_Pc [.ref (ga 2), .int (nI a0), .int a1] (wPre D kc [(ga 2, .inr (2, [.ref (ga 16), .ref (ga 17), .ref (ga 18), .ref (ga 19), .ref (ga 20), .int ga_over, .int ga_day, .int ga_rained, .int ga_purse, .int ga_bought, .int ga_washed, .int ga_swept, .int ga_melted])), (ga 16, .inl (kc 0, 8, .inl ga_salt)), (ga 17, .inl (kc 0, 8, .inl ga_sugar))] sz)) (va_Qi (fun (r : Int32) (_ : Unit) => (r = 0 ∨ r = 1)) (fun (_ : Unit) (t9 : State) => va_P D vwCl [(ga 2, .inr (2, [.ref (ga 16), .ref (ga 17), .ref (ga 18), .ref (ga 19), .ref (ga 20), .int ga_over, .int ga_day, .int ga_rained, .int ga_purse, .int ga_bought, .int ga_washed, .int ga_swept, .int ga_melted])), (ga 16, .inl (kc 0, 8, .inl ga_salt)), (ga 17, .inl (kc 0, 8, .inl ga_sugar))] t9.heap ∧ va_D (va_A [(ga 2, .inr (2, [.ref (ga 16), .ref (ga 17), .ref (ga 18), .ref (ga 19), .ref (ga 20), .int ga_over, .int ga_day, .int ga_rained, .int ga_purse, .int ga_bought, .int ga_washed, .int ga_swept, .int ga_melted])), (ga 16, .inl (kc 0, 8, .inl ga_salt)), (ga 17, .inl (kc 0, 8, .inl ga_sugar))] sz) [(ga 2, .inr (2, [.ref (ga 16), .ref (ga 17), .ref (ga 18), .ref (ga 19), .ref (ga 20), .int ga_over, .int ga_day, .int ga_rained, .int ga_purse, .int ga_bought, .int ga_washed, .int ga_swept, .int ga_melted])), (ga 16, .inl (kc 0, 8, .inl ga_salt)), (ga 17, .inl (kc 0, 8, .inl ga_sugar))]) (va_A [(ga 2, .inr (2, [.ref (ga 16), .ref (ga 17), .ref (ga 18), .ref (ga 19), .ref (ga 20), .int ga_over, .int ga_day, .int ga_rained, .int ga_purse, .int ga_bought, .int ga_washed, .int ga_swept, .int ga_melted])), (ga 16, .inl (kc 0, 8, .inl ga_salt)), (ga 17, .inl (kc 0, 8, .inl ga_sugar))] sz)) 0 0 (va_A [(ga 2, .inr (2, [.ref (ga 16), .ref (ga 17), .ref (ga 18), .ref (ga 19), .ref (ga 20), .int ga_over, .int ga_day, .int ga_rained, .int ga_purse, .int ga_bought, .int ga_washed, .int ga_swept, .int ga_melted])), (ga 16, .inl (kc 0, 8, .inl ga_salt)), (ga 17, .inl (kc 0, 8, .inl ga_sugar))] sz) := by
  refine Met.ofW (cc := cX2_hasRoom) (maxL := 3) (ret := (some .boolean)) (by decide) rfl ?_
  intro p e s m args below meth c s₁ B hml hv
  obtain ⟨rfl, hsz, hP, hE, hD0⟩ := hv
  have hx := B.exec
  have hb := B.bytes
  have hr := B.returns
  have hts := atoms_spec (ws := vs_hasRoom) B.pre
  have hown : s.vm.findClass RX2 = some m.cls := findClass_of_methodNamed B.named
  have hlocks := B.notSynchronized
  subst hsz
  have hD := hD0.self (sz := s.heap.size)
  generalize hAe : va_A [(ga 2, .inr (2, [.ref (ga 16), .ref (ga 17), .ref (ga 18), .ref (ga 19), .ref (ga 20), .int ga_over, .int ga_day, .int ga_rained, .int ga_purse, .int ga_bought, .int ga_washed, .int ga_swept, .int ga_melted])), (ga 16, .inl (kc 0, 8, .inl ga_salt)), (ga 17, .inl (kc 0, 8, .inl ga_sugar))] s.heap.size = A at hD ⊢
  have hA : ∀ q : Nat, s.heap.size ≤ q → A q := fun q h => by rw [← hAe]; exact Or.inr h
  have hS : va_S A s.heap s.heap [] := va_S.rf
  have hK := hE.1
  have hP : va_P D vwCl [(ga 2, .inr (2, [.ref (ga 16), .ref (ga 17), .ref (ga 18), .ref (ga 19), .ref (ga 20), .int ga_over, .int ga_day, .int ga_rained, .int ga_purse, .int ga_bought, .int ga_washed, .int ga_swept, .int ga_melted])), (ga 16, .inl (kc 0, 8, .inl ga_salt)), (ga 17, .inl (kc 0, 8, .inl ga_sugar))] s.heap := hP
  have hl := lv_entry ([.ref (ga 2), .int (nI a0), .int a1]) (n := 3) (Nat.le_of_ble_eq_true rfl)
  rw [lg_entry_eq]
  generalize (lg_sl ([.ref (ga 2), .int (nI a0), .int a1]) ++ List.replicate (3 - (lg_sl ([.ref (ga 2), .int (nI a0), .int a1])).length) Slot.unset).toArray = ls at hl ⊢
  have hl : lv_has ls 3 [(0, .ref (ga 2)), (1, .int (nI a0)), (2, .int a1)] := hl
  refine lv_aload_n hx hb dX2_hasRoom_0 rfl (lv_at hl 0 rfl) ?_
  refine lv_iload_n hx hb dX2_hasRoom_1 rfl (lv_at hl 1 rfl) ?_
  have hPc := hP.sub (ws' := [(ga 2, .inr (2, [.ref (ga 16), .ref (ga 17), .ref (ga 18), .ref (ga 19), .ref (ga 20), .int ga_over, .int ga_day, .int ga_rained, .int ga_purse, .int ga_bought, .int ga_washed, .int ga_swept, .int ga_melted])), (ga 16, .inl (kc 0, 8, .inl ga_salt)), (ga 17, .inl (kc 0, 8, .inl ga_sugar))]) [0, 1, 2] rfl
  have hDc := hD.sub (ws' := [(ga 2, .inr (2, [.ref (ga 16), .ref (ga 17), .ref (ga 18), .ref (ga 19), .ref (ga 20), .int ga_over, .int ga_day, .int ga_rained, .int ga_purse, .int ga_bought, .int ga_washed, .int ga_swept, .int ga_melted])), (ga 16, .inl (kc 0, 8, .inl ga_salt)), (ga 17, .inl (kc 0, 8, .inl ga_sugar))]) [0, 1, 2] (by decide) rfl
  have hFc := va_free (wc := [(ga 2, .inr (2, [.ref (ga 16), .ref (ga 17), .ref (ga 18), .ref (ga 19), .ref (ga 20), .int ga_over, .int ga_day, .int ga_rained, .int ga_purse, .int ga_bought, .int ga_washed, .int ga_swept, .int ga_melted])), (ga 16, .inl (kc 0, 8, .inl ga_salt)), (ga 17, .inl (kc 0, 8, .inl ga_sugar))]) hD hS hA [0, 1, 2] rfl
  refine va_calli (va_runV (As := [.int (nI a0)]) (rest := []) ⟨hx, hb, hml, hown, hts⟩ (s_lying l D kc s.heap.size ga ga_over ga_day ga_rained ga_purse ga_bought ga_washed ga_swept ga_melted ga_salt ga_sugar a0 h_ga_rained (by omega)) (cwV 1 hts gs_hasRoom_61_s_lying rfl rfl rfl (by decide +kernel) ⟨Nat.le_of_ble_eq_true rfl, Nat.le_of_ble_eq_true rfl⟩) (preV_ok hPc hDc hE (ci := 2) (q0 := 0) rfl rfl) rfl rfl hl.1 rfl (lv_room (Nat.le_of_ble_eq_true rfl)) dX2_hasRoom_2 ⟨Nat.le_of_ble_eq_true rfl, Nat.le_of_ble_eq_true rfl⟩) hS (fun q _ h => hFc q h) hFc (fun r1 u9 t9 H locs ht hvm hw hB hz1 hk1 hS => ?_)
  obtain ⟨hP1, hD1⟩ := hB
  rw [ht] at hP1
  obtain ⟨hP, hD⟩ := va_join (wr := []) (w1 := [(ga 2, .inr (2, [.ref (ga 16), .ref (ga 17), .ref (ga 18), .ref (ga 19), .ref (ga 20), .int ga_over, .int ga_day, .int ga_rained, .int ga_purse, .int ga_bought, .int ga_washed, .int ga_swept, .int ga_melted])), (ga 16, .inl (kc 0, 8, .inl ga_salt)), (ga 17, .inl (kc 0, 8, .inl ga_sugar))]) hP hD [0, 1, 2] [] rfl rfl (by decide) (by decide) hk1 hFc hP1 hD1
  have hP : va_P D vwCl [(ga 2, .inr (2, [.ref (ga 16), .ref (ga 17), .ref (ga 18), .ref (ga 19), .ref (ga 20), .int ga_over, .int ga_day, .int ga_rained, .int ga_purse, .int ga_bought, .int ga_washed, .int ga_swept, .int ga_melted])), (ga 16, .inl (kc 0, 8, .inl ga_salt)), (ga 17, .inl (kc 0, 8, .inl ga_sugar))] H := hP
  have hD : va_D A [(ga 2, .inr (2, [.ref (ga 16), .ref (ga 17), .ref (ga 18), .ref (ga 19), .ref (ga 20), .int ga_over, .int ga_day, .int ga_rained, .int ga_purse, .int ga_bought, .int ga_washed, .int ga_swept, .int ga_melted])), (ga 16, .inl (kc 0, 8, .inl ga_salt)), (ga 17, .inl (kc 0, 8, .inl ga_sugar))] := hD
  refine lv_iload_n hx hb dX2_hasRoom_5 rfl (lv_at hl 2 rfl) ?_
  refine lv_iadd hx hb dX2_hasRoom_6 ?_
  refine lv_topi (fun z2 _ => ?_)
  refine lv_sipush (v := 9999) hx hb dX2_hasRoom_7 (by decide) ?_
  refine lv_icmp_gt (tgt := 17) hx hb dX2_hasRoom_10 (by decide) (fun c3 => ?_) (fun c3 => ?_)
  · refine lv_iconst (v := 0) hx hb dX2_hasRoom_17 (by decide) ?_
    have hP9 := hP.sub (ws' := [(ga 2, .inr (2, [.ref (ga 16), .ref (ga 17), .ref (ga 18), .ref (ga 19), .ref (ga 20), .int ga_over, .int ga_day, .int ga_rained, .int ga_purse, .int ga_bought, .int ga_washed, .int ga_swept, .int ga_melted])), (ga 16, .inl (kc 0, 8, .inl ga_salt)), (ga 17, .inl (kc 0, 8, .inl ga_sugar))]) [0, 1, 2] rfl
    have hD9 := hD.sub (ws' := [(ga 2, .inr (2, [.ref (ga 16), .ref (ga 17), .ref (ga 18), .ref (ga 19), .ref (ga 20), .int ga_over, .int ga_day, .int ga_rained, .int ga_purse, .int ga_bought, .int ga_washed, .int ga_swept, .int ga_melted])), (ga 16, .inl (kc 0, 8, .inl ga_salt)), (ga 17, .inl (kc 0, 8, .inl ga_sugar))]) [0, 1, 2] (by decide) rfl
    exact W.zret (v := 0) hx hb hr rfl (fun t9 ht hW => ⟨⟨0, (), rfl, Or.inl rfl, by rw [ht]; exact hP9, hD9⟩, hS.F ht⟩) hS.2.2 dX2_hasRoom_18
  · refine lv_iconst (v := 1) hx hb dX2_hasRoom_13 (by decide) ?_
    refine lv_goto (tgt := 18) hx hb dX2_hasRoom_14 (by decide) ?_
    have hP9 := hP.sub (ws' := [(ga 2, .inr (2, [.ref (ga 16), .ref (ga 17), .ref (ga 18), .ref (ga 19), .ref (ga 20), .int ga_over, .int ga_day, .int ga_rained, .int ga_purse, .int ga_bought, .int ga_washed, .int ga_swept, .int ga_melted])), (ga 16, .inl (kc 0, 8, .inl ga_salt)), (ga 17, .inl (kc 0, 8, .inl ga_sugar))]) [0, 1, 2] rfl
    have hD9 := hD.sub (ws' := [(ga 2, .inr (2, [.ref (ga 16), .ref (ga 17), .ref (ga 18), .ref (ga 19), .ref (ga 20), .int ga_over, .int ga_day, .int ga_rained, .int ga_purse, .int ga_bought, .int ga_washed, .int ga_swept, .int ga_melted])), (ga 16, .inl (kc 0, 8, .inl ga_salt)), (ga 17, .inl (kc 0, 8, .inl ga_sugar))]) [0, 1, 2] (by decide) rfl
    exact W.zret (v := 1) hx hb hr rfl (fun t9 ht hW => ⟨⟨1, (), rfl, Or.inr rfl, by rw [ht]; exact hP9, hD9⟩, hS.F ht⟩) hS.2.2 dX2_hasRoom_18
theorem dX2_hasSnow_0 : decode cX2_hasSnow 0 = .ok (.iconst 0, 1) := by decide +kernel
theorem dX2_hasSnow_1 : decode cX2_hasSnow 1 = .ok (.istore_n 3, 1) := by decide +kernel
theorem dX2_hasSnow_2 : decode cX2_hasSnow 2 = .ok (.iload_n 3, 1) := by decide +kernel
theorem dX2_hasSnow_3 : decode cX2_hasSnow 3 = .ok (.aload_n 1, 1) := by decide +kernel
theorem dX2_hasSnow_4 : decode cX2_hasSnow 4 = .ok (.getfield 65, 3) := by decide +kernel
theorem dX2_hasSnow_7 : decode cX2_hasSnow 7 = .ok (.if_icmp .ge 28, 3) := by decide +kernel
theorem dX2_hasSnow_35 : decode cX2_hasSnow 35 = .ok (.iconst 0, 1) := by decide +kernel
theorem dX2_hasSnow_36 : decode cX2_hasSnow 36 = .ok (.ireturn, 1) := by decide +kernel
theorem dX2_hasSnow_10 : decode cX2_hasSnow 10 = .ok (.iload_n 2, 1) := by decide +kernel
theorem dX2_hasSnow_11 : decode cX2_hasSnow 11 = .ok (.iload_n 3, 1) := by decide +kernel
theorem dX2_hasSnow_12 : decode cX2_hasSnow 12 = .ok (.invokestatic 70, 3) := by decide +kernel
theorem dX2_hasSnow_15 : decode cX2_hasSnow 15 = .ok (.ifCond .eq 14, 3) := by decide +kernel
theorem dX2_hasSnow_29 : decode cX2_hasSnow 29 = .ok (.iinc 3 1, 3) := by decide +kernel
theorem dX2_hasSnow_32 : decode cX2_hasSnow 32 = .ok (.goto (-30), 3) := by decide +kernel
theorem dX2_hasSnow_18 : decode cX2_hasSnow 18 = .ok (.aload_n 0, 1) := by decide +kernel
theorem dX2_hasSnow_19 : decode cX2_hasSnow 19 = .ok (.getfield 18, 3) := by decide +kernel
theorem dX2_hasSnow_22 : decode cX2_hasSnow 22 = .ok (.iload_n 3, 1) := by decide +kernel
theorem dX2_hasSnow_23 : decode cX2_hasSnow 23 = .ok (.iaload, 1) := by decide +kernel
theorem dX2_hasSnow_24 : decode cX2_hasSnow 24 = .ok (.ifCond .le 5, 3) := by decide +kernel
theorem dX2_hasSnow_27 : decode cX2_hasSnow 27 = .ok (.iconst 1, 1) := by decide +kernel
theorem dX2_hasSnow_28 : decode cX2_hasSnow 28 = .ok (.ireturn, 1) := by decide +kernel
def vds_hasSnow : List Cond := [.code yX2_hasSnow cX2_hasSnow 4 (some .boolean), .code yX11_has cX11_has 2 (some .boolean), .initialized RX11, .static yX11_has, .fieldLink RX2 18 "SaltStreet$Ground" "snow" "[I"]
def vs_hasSnow : List Cond := vds_hasSnow ++ (wsX40 ++ (wsX20 ++ ([] : List Cond)))
theorem is_hasSnow_X4 : ∀ w ∈ wsX40, w ∈ vs_hasSnow := fun _ h => List.mem_append_right _ (List.mem_append_left _ h)
theorem is_hasSnow_X2 : ∀ w ∈ wsX20, w ∈ vs_hasSnow := fun _ h => List.mem_append_right _ (List.mem_append_right _ (List.mem_append_left _ h))
set_option maxRecDepth 20000 in
theorem gs_hasSnow_70_s_has : GoodIn vs_hasSnow vs_has := (goodIn_app (goodIn_r vds_has [1] rfl (by decide +kernel)) goodIn_nil)
set_option maxHeartbeats 4000000 in
set_option maxRecDepth 100000 in
theorem s_hasSnow (l : Launch) (D : va_G) (kc : Nat → ClassId) (sz : Nat) (na : Nat → Nat) (ga : Nat → Nat) (na_named : Nat) (na_houses : Nat) (na_quarrels : Nat) (na_cats : Nat) (na_grocers : Nat) (na_gone : Int32) (na_washes : Int32) (na_goneCounts : Int32) (ga_over : Int32) (ga_day : Int32) (ga_rained : Int32) (ga_purse : Int32) (ga_bought : Int32) (ga_washed : Int32) (ga_swept : Int32) (ga_melted : Int32) (ga_snow : Nat → Int32) (a0 : Int32) (h_na_named : na_named ≤ 24) (h_na_houses : na_houses ≤ 8) (h_na_quarrels : na_quarrels ≤ 8) (h_na_cats : na_cats ≤ 4) (h_na_grocers : na_grocers ≤ 4) (h_na_goneCounts : na_goneCounts = 0 ∨ na_goneCounts = 1) (h_ga_rained : ga_rained = 0 ∨ ga_rained = 1) : Met l yX2_hasSnow vs_hasSnow ({ frames := 1, cells := 0, slots := 0, locals := 21 }) (va_Pc [.ref (ga 2), .ref (na 1), .int a0] (wPre D kc [(na 1, .inr (4, [.ref (na 4), .ref (na 5), .ref (na 6), .ref (na 7), .ref (na 8), .ref (na 9), .ref (na 10), .ref (na 11), .ref (na 12), .ref (na 13), .ref (na 14), .ref (na 15), .int (nI na_named), .int (nI na_houses), .int (nI na_quarrels), .int (nI na_cats), .int (nI na_grocers), .int na_gone, .int na_washes, .int na_goneCounts])), (ga 2, .inr (2, [.ref (ga 16), .ref (ga 17), .ref (ga 18), .ref (ga 19), .ref (ga 20), .int ga_over, .int ga_day, .int ga_rained, .int ga_purse, .int ga_bought, .int ga_washed, .int ga_swept, .int ga_melted])), (ga 18, .inl (kc 0, 8, .inl ga_snow))] sz)) (va_Qi (fun (r : Int32) (_ : Unit) => (r = 0 ∨ r = 1)) (fun (_ : Unit) (t9 : State) => va_P D vwCl [(na 1, .inr (4, [.ref (na 4), .ref (na 5), .ref (na 6), .ref (na 7), .ref (na 8), .ref (na 9), .ref (na 10), .ref (na 11), .ref (na 12), .ref (na 13), .ref (na 14), .ref (na 15), .int (nI na_named), .int (nI na_houses), .int (nI na_quarrels), .int (nI na_cats), .int (nI na_grocers), .int na_gone, .int na_washes, .int na_goneCounts])), (ga 2, .inr (2, [.ref (ga 16), .ref (ga 17), .ref (ga 18), .ref (ga 19), .ref (ga 20), .int ga_over, .int ga_day, .int ga_rained, .int ga_purse, .int ga_bought, .int ga_washed, .int ga_swept, .int ga_melted])), (ga 18, .inl (kc 0, 8, .inl ga_snow))] t9.heap ∧ va_D (va_A [(na 1, .inr (4, [.ref (na 4), .ref (na 5), .ref (na 6), .ref (na 7), .ref (na 8), .ref (na 9), .ref (na 10), .ref (na 11), .ref (na 12), .ref (na 13), .ref (na 14), .ref (na 15), .int (nI na_named), .int (nI na_houses), .int (nI na_quarrels), .int (nI na_cats), .int (nI na_grocers), .int na_gone, .int na_washes, .int na_goneCounts])), (ga 2, .inr (2, [.ref (ga 16), .ref (ga 17), .ref (ga 18), .ref (ga 19), .ref (ga 20), .int ga_over, .int ga_day, .int ga_rained, .int ga_purse, .int ga_bought, .int ga_washed, .int ga_swept, .int ga_melted])), (ga 18, .inl (kc 0, 8, .inl ga_snow))] sz) [(na 1, .inr (4, [.ref (na 4), .ref (na 5), .ref (na 6), .ref (na 7), .ref (na 8), .ref (na 9), .ref (na 10), .ref (na 11), .ref (na 12), .ref (na 13), .ref (na 14), .ref (na 15), .int (nI na_named), .int (nI na_houses), .int (nI na_quarrels), .int (nI na_cats), .int (nI na_grocers), .int na_gone, .int na_washes, .int na_goneCounts])), (ga 2, .inr (2, [.ref (ga 16), .ref (ga 17), .ref (ga 18), .ref (ga 19), .ref (ga 20), .int ga_over, .int ga_day, .int ga_rained, .int ga_purse, .int ga_bought, .int ga_washed, .int ga_swept, .int ga_melted])), (ga 18, .inl (kc 0, 8, .inl ga_snow))]) (va_A [(na 1, .inr (4, [.ref (na 4), .ref (na 5), .ref (na 6), .ref (na 7), .ref (na 8), .ref (na 9), .ref (na 10), .ref (na 11), .ref (na 12), .ref (na 13), .ref (na 14), .ref (na 15), .int (nI na_named), .int (nI na_houses), .int (nI na_quarrels), .int (nI na_cats), .int (nI na_grocers), .int na_gone, .int na_washes, .int na_goneCounts])), (ga 2, .inr (2, [.ref (ga 16), .ref (ga 17), .ref (ga 18), .ref (ga 19), .ref (ga 20), .int ga_over, .int ga_day, .int ga_rained, .int ga_purse, .int ga_bought, .int ga_washed, .int ga_swept, .int ga_melted])), (ga 18, .inl (kc 0, 8, .inl ga_snow))] sz)) 0 0 (va_A [(na 1, .inr (4, [.ref (na 4), .ref (na 5), .ref (na 6), .ref (na 7), .ref (na 8), .ref (na 9), .ref (na 10), .ref (na 11), .ref (na 12), .ref (na 13), .ref (na 14), .ref (na 15), .int (nI na_named), .int (nI na_houses), .int (nI na_quarrels), .int (nI na_cats), .int (nI na_grocers), .int na_gone, .int na_washes, .int na_goneCounts])), (ga 2, .inr (2, [.ref (ga 16), .ref (ga 17), .ref (ga 18), .ref (ga 19), .ref (ga 20), .int ga_over, .int ga_day, .int ga_rained, .int ga_purse, .int ga_bought, .int ga_washed, .int ga_swept, .int ga_melted])), (ga 18, .inl (kc 0, 8, .inl ga_snow))] sz) := by
  refine Met.ofW (cc := cX2_hasSnow) (maxL := 4) (ret := (some .boolean)) (by decide) rfl ?_
  intro p e s m args below meth c s₁ B hml hv
  obtain ⟨rfl, hsz, hP, hE, hD0⟩ := hv
  have hx := B.exec
  have hb := B.bytes
  have hr := B.returns
  have hts := atoms_spec (ws := vs_hasSnow) B.pre
  have hown : s.vm.findClass RX2 = some m.cls := findClass_of_methodNamed B.named
  have hlocks := B.notSynchronized
  subst hsz
  have hD := hD0.self (sz := s.heap.size)
  generalize hAe : va_A [(na 1, .inr (4, [.ref (na 4), .ref (na 5), .ref (na 6), .ref (na 7), .ref (na 8), .ref (na 9), .ref (na 10), .ref (na 11), .ref (na 12), .ref (na 13), .ref (na 14), .ref (na 15), .int (nI na_named), .int (nI na_houses), .int (nI na_quarrels), .int (nI na_cats), .int (nI na_grocers), .int na_gone, .int na_washes, .int na_goneCounts])), (ga 2, .inr (2, [.ref (ga 16), .ref (ga 17), .ref (ga 18), .ref (ga 19), .ref (ga 20), .int ga_over, .int ga_day, .int ga_rained, .int ga_purse, .int ga_bought, .int ga_washed, .int ga_swept, .int ga_melted])), (ga 18, .inl (kc 0, 8, .inl ga_snow))] s.heap.size = A at hD ⊢
  have hA : ∀ q : Nat, s.heap.size ≤ q → A q := fun q h => by rw [← hAe]; exact Or.inr h
  have hS : va_S A s.heap s.heap [] := va_S.rf
  have hK := hE.1
  have hP : va_P D vwCl [(na 1, .inr (4, [.ref (na 4), .ref (na 5), .ref (na 6), .ref (na 7), .ref (na 8), .ref (na 9), .ref (na 10), .ref (na 11), .ref (na 12), .ref (na 13), .ref (na 14), .ref (na 15), .int (nI na_named), .int (nI na_houses), .int (nI na_quarrels), .int (nI na_cats), .int (nI na_grocers), .int na_gone, .int na_washes, .int na_goneCounts])), (ga 2, .inr (2, [.ref (ga 16), .ref (ga 17), .ref (ga 18), .ref (ga 19), .ref (ga 20), .int ga_over, .int ga_day, .int ga_rained, .int ga_purse, .int ga_bought, .int ga_washed, .int ga_swept, .int ga_melted])), (ga 18, .inl (kc 0, 8, .inl ga_snow))] s.heap := hP
  have hl := lv_entry ([.ref (ga 2), .ref (na 1), .int a0]) (n := 4) (Nat.le_of_ble_eq_true rfl)
  rw [lg_entry_eq]
  generalize (lg_sl ([.ref (ga 2), .ref (na 1), .int a0]) ++ List.replicate (4 - (lg_sl ([.ref (ga 2), .ref (na 1), .int a0])).length) Slot.unset).toArray = ls at hl ⊢
  have hl : lv_has ls 4 [(0, .ref (ga 2)), (1, .ref (na 1)), (2, .int a0)] := hl
  refine lv_iconst (v := 0) hx hb dX2_hasSnow_0 (by decide) ?_
  refine lv_istore_n (lv' := [(3, .int 0), (0, .ref (ga 2)), (1, .ref (na 1)), (2, .int a0)]) hx hb dX2_hasSnow_1 rfl hl (by decide) rfl (fun ls hl => ?_)
  have loop_n9_2_8 : ∀ (n9_2_8 : Nat) (i7 : Nat), i7 ≤ na_houses → na_houses < i7 + n9_2_8 → ∀ (H : Heap) (locs : List Loc) (ls : Array Slot), va_P D vwCl [(na 1, .inr (4, [.ref (na 4), .ref (na 5), .ref (na 6), .ref (na 7), .ref (na 8), .ref (na 9), .ref (na 10), .ref (na 11), .ref (na 12), .ref (na 13), .ref (na 14), .ref (na 15), .int (nI na_named), .int (nI na_houses), .int (nI na_quarrels), .int (nI na_cats), .int (nI na_grocers), .int na_gone, .int na_washes, .int na_goneCounts])), (ga 2, .inr (2, [.ref (ga 16), .ref (ga 17), .ref (ga 18), .ref (ga 19), .ref (ga 20), .int ga_over, .int ga_day, .int ga_rained, .int ga_purse, .int ga_bought, .int ga_washed, .int ga_swept, .int ga_melted])), (ga 18, .inl (kc 0, 8, .inl ga_snow))] H → va_D A [(na 1, .inr (4, [.ref (na 4), .ref (na 5), .ref (na 6), .ref (na 7), .ref (na 8), .ref (na 9), .ref (na 10), .ref (na 11), .ref (na 12), .ref (na 13), .ref (na 14), .ref (na 15), .int (nI na_named), .int (nI na_houses), .int (nI na_quarrels), .int (nI na_cats), .int (nI na_grocers), .int na_gone, .int na_washes, .int na_goneCounts])), (ga 2, .inr (2, [.ref (ga 16), .ref (ga 17), .ref (ga 18), .ref (ga 19), .ref (ga 20), .int ga_over, .int ga_day, .int ga_rained, .int ga_purse, .int ga_bought, .int ga_washed, .int ga_swept, .int ga_melted])), (ga 18, .inl (kc 0, 8, .inl ga_snow))] → va_S A s.heap H locs → lv_has ls 4 [(3, .int (nI i7)), (0, .ref (ga 2)), (1, .ref (na 1)), (2, .int a0)] → W p l e (headSpec vs_hasSnow ({ frames := 1, cells := 0, slots := 0, locals := 21 })).room s m [.ref (ga 2), .ref (na 1), .int a0].toArray below meth c H locs 0 0 (MQ below (va_Qi (fun (r : Int32) (_ : Unit) => (r = 0 ∨ r = 1)) (fun (_ : Unit) (t9 : State) => va_P D vwCl [(na 1, .inr (4, [.ref (na 4), .ref (na 5), .ref (na 6), .ref (na 7), .ref (na 8), .ref (na 9), .ref (na 10), .ref (na 11), .ref (na 12), .ref (na 13), .ref (na 14), .ref (na 15), .int (nI na_named), .int (nI na_houses), .int (nI na_quarrels), .int (nI na_cats), .int (nI na_grocers), .int na_gone, .int na_washes, .int na_goneCounts])), (ga 2, .inr (2, [.ref (ga 16), .ref (ga 17), .ref (ga 18), .ref (ga 19), .ref (ga 20), .int ga_over, .int ga_day, .int ga_rained, .int ga_purse, .int ga_bought, .int ga_washed, .int ga_swept, .int ga_melted])), (ga 18, .inl (kc 0, 8, .inl ga_snow))] t9.heap ∧ va_D A [(na 1, .inr (4, [.ref (na 4), .ref (na 5), .ref (na 6), .ref (na 7), .ref (na 8), .ref (na 9), .ref (na 10), .ref (na 11), .ref (na 12), .ref (na 13), .ref (na 14), .ref (na 15), .int (nI na_named), .int (nI na_houses), .int (nI na_quarrels), .int (nI na_cats), .int (nI na_grocers), .int na_gone, .int na_washes, .int na_goneCounts])), (ga 2, .inr (2, [.ref (ga 16), .ref (ga 17), .ref (ga 18), .ref (ga 19), .ref (ga 20), .int ga_over, .int ga_day, .int ga_rained, .int ga_purse, .int ga_bought, .int ga_washed, .int ga_swept, .int ga_melted])), (ga 18, .inl (kc 0, 8, .inl ga_snow))]) A) [.ref (ga 2), .ref (na 1), .int a0].toArray s 0 0 A) (F0 m 2 ls []) := by
    intro n9_2_8
    induction n9_2_8 with
    | zero => intro i7   h1 h2; exact absurd h2 (by omega)
    | succ n9_2_8 ih_n9_2_8 =>
      intro i7   h1_n9_2_8 h2_n9_2_8 H locs ls hP hD hS hl
      refine lv_iload_n hx hb dX2_hasSnow_2 rfl (lv_at hl 0 rfl) ?_
      refine lv_aload_n hx hb dX2_hasSnow_3 rfl (lv_at hl 2 rfl) ?_
      refine va_getN (D := D) (ci := 4) (v := .int (nI na_houses)) (C := RX4) (T := TX4) (N := 20) hx hb hts is_hasSnow_X4 hown hK hP 0 rfl rfl 13 (by decide) (hE.nw 35 rfl) (fun _ h9 => h9) rfl dX2_hasSnow_4 ?_
      refine lv_icmp_ge (tgt := 35) hx hb dX2_hasSnow_7 (by decide) (fun c9 => ?_) (fun c9 => ?_)
      · have nc9 := (nI_leI (a := na_houses) (b := i7) (by omega) (by omega)).mp c9
        refine lv_iconst (v := 0) hx hb dX2_hasSnow_35 (by decide) ?_
        have hP9 := hP.sub (ws' := [(na 1, .inr (4, [.ref (na 4), .ref (na 5), .ref (na 6), .ref (na 7), .ref (na 8), .ref (na 9), .ref (na 10), .ref (na 11), .ref (na 12), .ref (na 13), .ref (na 14), .ref (na 15), .int (nI na_named), .int (nI na_houses), .int (nI na_quarrels), .int (nI na_cats), .int (nI na_grocers), .int na_gone, .int na_washes, .int na_goneCounts])), (ga 2, .inr (2, [.ref (ga 16), .ref (ga 17), .ref (ga 18), .ref (ga 19), .ref (ga 20), .int ga_over, .int ga_day, .int ga_rained, .int ga_purse, .int ga_bought, .int ga_washed, .int ga_swept, .int ga_melted])), (ga 18, .inl (kc 0, 8, .inl ga_snow))]) [0, 1, 2] rfl
        have hD9 := hD.sub (ws' := [(na 1, .inr (4, [.ref (na 4), .ref (na 5), .ref (na 6), .ref (na 7), .ref (na 8), .ref (na 9), .ref (na 10), .ref (na 11), .ref (na 12), .ref (na 13), .ref (na 14), .ref (na 15), .int (nI na_named), .int (nI na_houses), .int (nI na_quarrels), .int (nI na_cats), .int (nI na_grocers), .int na_gone, .int na_washes, .int na_goneCounts])), (ga 2, .inr (2, [.ref (ga 16), .ref (ga 17), .ref (ga 18), .ref (ga 19), .ref (ga 20), .int ga_over, .int ga_day, .int ga_rained, .int ga_purse, .int ga_bought, .int ga_washed, .int ga_swept, .int ga_melted])), (ga 18, .inl (kc 0, 8, .inl ga_snow))]) [0, 1, 2] (by decide) rfl
        exact W.zret (v := 0) hx hb hr rfl (fun t9 ht hW => ⟨⟨0, (), rfl, Or.inl rfl, by rw [ht]; exact hP9, hD9⟩, hS.F ht⟩) hS.2.2 dX2_hasSnow_36
      · have nc9 := Nat.not_le.mp (fun q => c9 ((nI_leI (a := na_houses) (b := i7) (by omega) (by omega)).mpr q))
        refine lv_iload_n hx hb dX2_hasSnow_10 rfl (lv_at hl 3 rfl) ?_
        refine lv_iload_n hx hb dX2_hasSnow_11 rfl (lv_at hl 0 rfl) ?_
        have hPc := hP.sub (ws' := []) [] rfl
        have hDc := hD.sub (ws' := []) [] (by decide) rfl
        have hFc := va_free (wc := []) hD hS hA [] rfl
        refine va_calli (va_runSN (As := [.int a0, .int (nI i7)]) (rest := []) ⟨hx, hb, hml, hown, hts⟩ (s_has l D kc H.size a0 (nI i7)) ⟨va_cnB 2 hts gs_hasSnow_70_s_has rfl rfl rfl (hE.nn 125 rfl) (hts (.initialized RX11) (List.mem_of_getElem? (i := 2) rfl)) (by decide +kernel) ⟨Nat.le_of_ble_eq_true rfl, Nat.le_of_ble_eq_true rfl⟩, (hts (.static yX11_has) (List.mem_of_getElem? (i := 3) rfl)), trivial⟩ (preS_ok hPc hDc hE) rfl rfl hl.1 rfl (lv_room (Nat.le_of_ble_eq_true rfl)) dX2_hasSnow_12 ⟨Nat.le_of_ble_eq_true rfl, Nat.le_of_ble_eq_true rfl⟩) hS (fun q _ h => hFc q h) hFc (fun r10 u9 t9 H locs ht hvm hw hB hz1 hk1 hS => ?_)
        obtain ⟨hP1, hD1⟩ := hB
        rw [ht] at hP1
        obtain ⟨hP, hD⟩ := va_join (wr := [(na 1, .inr (4, [.ref (na 4), .ref (na 5), .ref (na 6), .ref (na 7), .ref (na 8), .ref (na 9), .ref (na 10), .ref (na 11), .ref (na 12), .ref (na 13), .ref (na 14), .ref (na 15), .int (nI na_named), .int (nI na_houses), .int (nI na_quarrels), .int (nI na_cats), .int (nI na_grocers), .int na_gone, .int na_washes, .int na_goneCounts])), (ga 2, .inr (2, [.ref (ga 16), .ref (ga 17), .ref (ga 18), .ref (ga 19), .ref (ga 20), .int ga_over, .int ga_day, .int ga_rained, .int ga_purse, .int ga_bought, .int ga_washed, .int ga_swept, .int ga_melted])), (ga 18, .inl (kc 0, 8, .inl ga_snow))]) (w1 := []) hP hD [] [0, 1, 2] rfl rfl (by decide) (by decide) hk1 hFc hP1 hD1
        have hP : va_P D vwCl [(na 1, .inr (4, [.ref (na 4), .ref (na 5), .ref (na 6), .ref (na 7), .ref (na 8), .ref (na 9), .ref (na 10), .ref (na 11), .ref (na 12), .ref (na 13), .ref (na 14), .ref (na 15), .int (nI na_named), .int (nI na_houses), .int (nI na_quarrels), .int (nI na_cats), .int (nI na_grocers), .int na_gone, .int na_washes, .int na_goneCounts])), (ga 2, .inr (2, [.ref (ga 16), .ref (ga 17), .ref (ga 18), .ref (ga 19), .ref (ga 20), .int ga_over, .int ga_day, .int ga_rained, .int ga_purse, .int ga_bought, .int ga_washed, .int ga_swept, .int ga_melted])), (ga 18, .inl (kc 0, 8, .inl ga_snow))] H := hP
        have hD : va_D A [(na 1, .inr (4, [.ref (na 4), .ref (na 5), .ref (na 6), .ref (na 7), .ref (na 8), .ref (na 9), .ref (na 10), .ref (na 11), .ref (na 12), .ref (na 13), .ref (na 14), .ref (na 15), .int (nI na_named), .int (nI na_houses), .int (nI na_quarrels), .int (nI na_cats), .int (nI na_grocers), .int na_gone, .int na_washes, .int na_goneCounts])), (ga 2, .inr (2, [.ref (ga 16), .ref (ga 17), .ref (ga 18), .ref (ga 19), .ref (ga 20), .int ga_over, .int ga_day, .int ga_rained, .int ga_purse, .int ga_bought, .int ga_washed, .int ga_swept, .int ga_melted])), (ga 18, .inl (kc 0, 8, .inl ga_snow))] := hD
        have h_r10 := hw
        refine lv_if_eq (tgt := 29) hx hb dX2_hasSnow_15 (by decide) (fun c11 => ?_) (fun c11 => ?_)
        · refine lv_iinc (v := (nI (i7 + 1))) (lv' := [(3, .int (nI (i7 + 1))), (0, .ref (ga 2)), (1, .ref (na 1)), (2, .int a0)]) hx hb dX2_hasSnow_29 hl (k := 0) rfl (nI_1 _) (by decide) rfl (fun ls hl => ?_)
          refine lv_goto (tgt := 2) hx hb dX2_hasSnow_32 (by decide) ?_
          exact ih_n9_2_8 (i7 + 1) (by omega) (by omega) _ _ ls hP hD hS (lv_sub hl [0, 1, 2, 3] rfl)
        · refine lv_aload_n hx hb dX2_hasSnow_18 rfl (lv_at hl 1 rfl) ?_
          refine va_get (D := D) (ci := 2) (v := .ref (ga 18)) (C := RX2) (T := TX2) (N := 13) hx hb hts is_hasSnow_X2 hown hK hP 1 rfl rfl 2 (by decide) (hts (.fieldLink RX2 18 "SaltStreet$Ground" "snow" "[I") (List.mem_of_getElem? (i := 4) rfl)) (fun _ h9 => h9) rfl dX2_hasSnow_19 ?_
          refine lv_iload_n hx hb dX2_hasSnow_22 rfl (lv_at hl 0 rfl) ?_
          refine va_iald hx hb hK hP 2 0 (f := ga_snow) rfl rfl (vp_in_nI (by omega) (by decide)) dX2_hasSnow_23 ?_
          refine lv_topi (fun z12 _ => ?_)
          refine lv_if_le (tgt := 29) hx hb dX2_hasSnow_24 (by decide) (fun c13 => ?_) (fun c13 => ?_)
          · refine lv_iinc (v := (nI (i7 + 1))) (lv' := [(3, .int (nI (i7 + 1))), (0, .ref (ga 2)), (1, .ref (na 1)), (2, .int a0)]) hx hb dX2_hasSnow_29 hl (k := 0) rfl (nI_1 _) (by decide) rfl (fun ls hl => ?_)
            refine lv_goto (tgt := 2) hx hb dX2_hasSnow_32 (by decide) ?_
            exact ih_n9_2_8 (i7 + 1) (by omega) (by omega) _ _ ls hP hD hS (lv_sub hl [0, 1, 2, 3] rfl)
          · refine lv_iconst (v := 1) hx hb dX2_hasSnow_27 (by decide) ?_
            have hP9 := hP.sub (ws' := [(na 1, .inr (4, [.ref (na 4), .ref (na 5), .ref (na 6), .ref (na 7), .ref (na 8), .ref (na 9), .ref (na 10), .ref (na 11), .ref (na 12), .ref (na 13), .ref (na 14), .ref (na 15), .int (nI na_named), .int (nI na_houses), .int (nI na_quarrels), .int (nI na_cats), .int (nI na_grocers), .int na_gone, .int na_washes, .int na_goneCounts])), (ga 2, .inr (2, [.ref (ga 16), .ref (ga 17), .ref (ga 18), .ref (ga 19), .ref (ga 20), .int ga_over, .int ga_day, .int ga_rained, .int ga_purse, .int ga_bought, .int ga_washed, .int ga_swept, .int ga_melted])), (ga 18, .inl (kc 0, 8, .inl ga_snow))]) [0, 1, 2] rfl
            have hD9 := hD.sub (ws' := [(na 1, .inr (4, [.ref (na 4), .ref (na 5), .ref (na 6), .ref (na 7), .ref (na 8), .ref (na 9), .ref (na 10), .ref (na 11), .ref (na 12), .ref (na 13), .ref (na 14), .ref (na 15), .int (nI na_named), .int (nI na_houses), .int (nI na_quarrels), .int (nI na_cats), .int (nI na_grocers), .int na_gone, .int na_washes, .int na_goneCounts])), (ga 2, .inr (2, [.ref (ga 16), .ref (ga 17), .ref (ga 18), .ref (ga 19), .ref (ga 20), .int ga_over, .int ga_day, .int ga_rained, .int ga_purse, .int ga_bought, .int ga_washed, .int ga_swept, .int ga_melted])), (ga 18, .inl (kc 0, 8, .inl ga_snow))]) [0, 1, 2] (by decide) rfl
            exact W.zret (v := 1) hx hb hr rfl (fun t9 ht hW => ⟨⟨1, (), rfl, Or.inr rfl, by rw [ht]; exact hP9, hD9⟩, hS.F ht⟩) hS.2.2 dX2_hasSnow_28
  exact loop_n9_2_8 (na_houses + 1) 0 (by omega) (by omega) _ _ ls hP hD hS (lv_sub hl [0, 1, 2, 3] rfl)
theorem dX2_looksLike_0 : decode cX2_looksLike 0 = .ok (.iload_n 2, 1) := by decide +kernel
theorem dX2_looksLike_1 : decode cX2_looksLike 1 = .ok (.ifCond .ne 18, 3) := by decide +kernel
theorem dX2_looksLike_19 : decode cX2_looksLike 19 = .ok (.iload_n 2, 1) := by decide +kernel
theorem dX2_looksLike_20 : decode cX2_looksLike 20 = .ok (.iconst 1, 1) := by decide +kernel
theorem dX2_looksLike_21 : decode cX2_looksLike 21 = .ok (.if_icmp .ne 20, 3) := by decide +kernel
theorem dX2_looksLike_41 : decode cX2_looksLike 41 = .ok (.aload_n 0, 1) := by decide +kernel
theorem dX2_looksLike_42 : decode cX2_looksLike 42 = .ok (.getfield 18, 3) := by decide +kernel
theorem dX2_looksLike_45 : decode cX2_looksLike 45 = .ok (.iload_n 1, 1) := by decide +kernel
theorem dX2_looksLike_46 : decode cX2_looksLike 46 = .ok (.iaload, 1) := by decide +kernel
theorem dX2_looksLike_47 : decode cX2_looksLike 47 = .ok (.ifCond .ne 15, 3) := by decide +kernel
theorem dX2_looksLike_62 : decode cX2_looksLike 62 = .ok (.iconst 0, 1) := by decide +kernel
theorem dX2_looksLike_63 : decode cX2_looksLike 63 = .ok (.ireturn, 1) := by decide +kernel
theorem dX2_looksLike_50 : decode cX2_looksLike 50 = .ok (.aload_n 0, 1) := by decide +kernel
theorem dX2_looksLike_51 : decode cX2_looksLike 51 = .ok (.iload_n 1, 1) := by decide +kernel
theorem dX2_looksLike_52 : decode cX2_looksLike 52 = .ok (.invokevirtual 61, 3) := by decide +kernel
theorem dX2_looksLike_55 : decode cX2_looksLike 55 = .ok (.ifCond .ne 7, 3) := by decide +kernel
theorem dX2_looksLike_58 : decode cX2_looksLike 58 = .ok (.iconst 1, 1) := by decide +kernel
theorem dX2_looksLike_59 : decode cX2_looksLike 59 = .ok (.goto 4, 3) := by decide +kernel
theorem dX2_looksLike_24 : decode cX2_looksLike 24 = .ok (.aload_n 0, 1) := by decide +kernel
theorem dX2_looksLike_25 : decode cX2_looksLike 25 = .ok (.getfield 18, 3) := by decide +kernel
theorem dX2_looksLike_28 : decode cX2_looksLike 28 = .ok (.iload_n 1, 1) := by decide +kernel
theorem dX2_looksLike_29 : decode cX2_looksLike 29 = .ok (.iaload, 1) := by decide +kernel
theorem dX2_looksLike_30 : decode cX2_looksLike 30 = .ok (.ifCond .le 7, 3) := by decide +kernel
theorem dX2_looksLike_37 : decode cX2_looksLike 37 = .ok (.iconst 0, 1) := by decide +kernel
theorem dX2_looksLike_38 : decode cX2_looksLike 38 = .ok (.goto 25, 3) := by decide +kernel
theorem dX2_looksLike_33 : decode cX2_looksLike 33 = .ok (.iconst 1, 1) := by decide +kernel
theorem dX2_looksLike_34 : decode cX2_looksLike 34 = .ok (.goto 29, 3) := by decide +kernel
theorem dX2_looksLike_4 : decode cX2_looksLike 4 = .ok (.aload_n 0, 1) := by decide +kernel
theorem dX2_looksLike_5 : decode cX2_looksLike 5 = .ok (.getfield 15, 3) := by decide +kernel
theorem dX2_looksLike_8 : decode cX2_looksLike 8 = .ok (.iload_n 1, 1) := by decide +kernel
theorem dX2_looksLike_9 : decode cX2_looksLike 9 = .ok (.iaload, 1) := by decide +kernel
theorem dX2_looksLike_10 : decode cX2_looksLike 10 = .ok (.ifCond .le 7, 3) := by decide +kernel
theorem dX2_looksLike_17 : decode cX2_looksLike 17 = .ok (.iconst 0, 1) := by decide +kernel
theorem dX2_looksLike_18 : decode cX2_looksLike 18 = .ok (.ireturn, 1) := by decide +kernel
theorem dX2_looksLike_13 : decode cX2_looksLike 13 = .ok (.iconst 1, 1) := by decide +kernel
theorem dX2_looksLike_14 : decode cX2_looksLike 14 = .ok (.goto 4, 3) := by decide +kernel
def vds_looksLike : List Cond := [.code yX2_looksLike cX2_looksLike 3 (some .boolean), .fieldLink RX2 18 "SaltStreet$Ground" "snow" "[I", .methodLink RX2 61 yX2_lying, .code yX2_lying cX2_lying 2 (some .int), .fieldLink RX2 9 "SaltStreet$Ground" "salt" "[I", .fieldLink RX2 15 "SaltStreet$Ground" "sugar" "[I", .instanceMethod yX2_lying, .selects RX2 yX2_lying yX2_lying, .initialized RX2]
def vs_looksLike : List Cond := vds_looksLike ++ (wsX20 ++ ([] : List Cond))
theorem is_looksLike_X2 : ∀ w ∈ wsX20, w ∈ vs_looksLike := fun _ h => List.mem_append_right _ (List.mem_append_left _ h)
set_option maxRecDepth 20000 in
theorem gs_looksLike_61_s_lying : GoodIn vs_looksLike (wsV RX2 61 RX2 yX2_lying vs_lying) := (goodIn_app (goodIn_r _ [2, 6, 7, 8] rfl (by decide +kernel)) (goodIn_app (goodIn_r vds_lying [3, 4, 5] rfl (by decide +kernel)) (goodIn_app (goodIn_sub is_looksLike_X2 gdX2) goodIn_nil)))
set_option maxHeartbeats 4000000 in
set_option maxRecDepth 100000 in
theorem s_looksLike (l : Launch) (D : va_G) (kc : Nat → ClassId) (sz : Nat) (ga : Nat → Nat) (ga_over : Int32) (ga_day : Int32) (ga_rained : Int32) (ga_purse : Int32) (ga_bought : Int32) (ga_washed : Int32) (ga_swept : Int32) (ga_melted : Int32) (ga_salt : Nat → Int32) (ga_sugar : Nat → Int32) (ga_snow : Nat → Int32) (a0 : Nat) (a1 : Int32) (h_ga_rained : ga_rained = 0 ∨ ga_rained = 1) (h_a0 : a0 ≤ 7) : Met l yX2_looksLike vs_looksLike ({ frames := 1, cells := 0, slots := 0, locals := 21 }) (va_Pc [.ref (ga 2), .int (nI a0), .int a1] (wPre D kc [(ga 2, .inr (2, [.ref (ga 16), .ref (ga 17), .ref (ga 18), .ref (ga 19), .ref (ga 20), .int ga_over, .int ga_day, .int ga_rained, .int ga_purse, .int ga_bought, .int ga_washed, .int ga_swept, .int ga_melted])), (ga 16, .inl (kc 0, 8, .inl ga_salt)), (ga 17, .inl (kc 0, 8, .inl ga_sugar)), (ga 18, .inl (kc 0, 8, .inl ga_snow))] sz)) (va_Qi (fun (r : Int32) (_ : Unit) => (r = 0 ∨ r = 1)) (fun (_ : Unit) (t9 : State) => va_P D vwCl [(ga 2, .inr (2, [.ref (ga 16), .ref (ga 17), .ref (ga 18), .ref (ga 19), .ref (ga 20), .int ga_over, .int ga_day, .int ga_rained, .int ga_purse, .int ga_bought, .int ga_washed, .int ga_swept, .int ga_melted])), (ga 16, .inl (kc 0, 8, .inl ga_salt)), (ga 17, .inl (kc 0, 8, .inl ga_sugar)), (ga 18, .inl (kc 0, 8, .inl ga_snow))] t9.heap ∧ va_D (va_A [(ga 2, .inr (2, [.ref (ga 16), .ref (ga 17), .ref (ga 18), .ref (ga 19), .ref (ga 20), .int ga_over, .int ga_day, .int ga_rained, .int ga_purse, .int ga_bought, .int ga_washed, .int ga_swept, .int ga_melted])), (ga 16, .inl (kc 0, 8, .inl ga_salt)), (ga 17, .inl (kc 0, 8, .inl ga_sugar)), (ga 18, .inl (kc 0, 8, .inl ga_snow))] sz) [(ga 2, .inr (2, [.ref (ga 16), .ref (ga 17), .ref (ga 18), .ref (ga 19), .ref (ga 20), .int ga_over, .int ga_day, .int ga_rained, .int ga_purse, .int ga_bought, .int ga_washed, .int ga_swept, .int ga_melted])), (ga 16, .inl (kc 0, 8, .inl ga_salt)), (ga 17, .inl (kc 0, 8, .inl ga_sugar)), (ga 18, .inl (kc 0, 8, .inl ga_snow))]) (va_A [(ga 2, .inr (2, [.ref (ga 16), .ref (ga 17), .ref (ga 18), .ref (ga 19), .ref (ga 20), .int ga_over, .int ga_day, .int ga_rained, .int ga_purse, .int ga_bought, .int ga_washed, .int ga_swept, .int ga_melted])), (ga 16, .inl (kc 0, 8, .inl ga_salt)), (ga 17, .inl (kc 0, 8, .inl ga_sugar)), (ga 18, .inl (kc 0, 8, .inl ga_snow))] sz)) 0 0 (va_A [(ga 2, .inr (2, [.ref (ga 16), .ref (ga 17), .ref (ga 18), .ref (ga 19), .ref (ga 20), .int ga_over, .int ga_day, .int ga_rained, .int ga_purse, .int ga_bought, .int ga_washed, .int ga_swept, .int ga_melted])), (ga 16, .inl (kc 0, 8, .inl ga_salt)), (ga 17, .inl (kc 0, 8, .inl ga_sugar)), (ga 18, .inl (kc 0, 8, .inl ga_snow))] sz) := by
  refine Met.ofW (cc := cX2_looksLike) (maxL := 3) (ret := (some .boolean)) (by decide) rfl ?_
  intro p e s m args below meth c s₁ B hml hv
  obtain ⟨rfl, hsz, hP, hE, hD0⟩ := hv
  have hx := B.exec
  have hb := B.bytes
  have hr := B.returns
  have hts := atoms_spec (ws := vs_looksLike) B.pre
  have hown : s.vm.findClass RX2 = some m.cls := findClass_of_methodNamed B.named
  have hlocks := B.notSynchronized
  subst hsz
  have hD := hD0.self (sz := s.heap.size)
  generalize hAe : va_A [(ga 2, .inr (2, [.ref (ga 16), .ref (ga 17), .ref (ga 18), .ref (ga 19), .ref (ga 20), .int ga_over, .int ga_day, .int ga_rained, .int ga_purse, .int ga_bought, .int ga_washed, .int ga_swept, .int ga_melted])), (ga 16, .inl (kc 0, 8, .inl ga_salt)), (ga 17, .inl (kc 0, 8, .inl ga_sugar)), (ga 18, .inl (kc 0, 8, .inl ga_snow))] s.heap.size = A at hD ⊢
  have hA : ∀ q : Nat, s.heap.size ≤ q → A q := fun q h => by rw [← hAe]; exact Or.inr h
  have hS : va_S A s.heap s.heap [] := va_S.rf
  have hK := hE.1
  have hP : va_P D vwCl [(ga 2, .inr (2, [.ref (ga 16), .ref (ga 17), .ref (ga 18), .ref (ga 19), .ref (ga 20), .int ga_over, .int ga_day, .int ga_rained, .int ga_purse, .int ga_bought, .int ga_washed, .int ga_swept, .int ga_melted])), (ga 16, .inl (kc 0, 8, .inl ga_salt)), (ga 17, .inl (kc 0, 8, .inl ga_sugar)), (ga 18, .inl (kc 0, 8, .inl ga_snow))] s.heap := hP
  have hl := lv_entry ([.ref (ga 2), .int (nI a0), .int a1]) (n := 3) (Nat.le_of_ble_eq_true rfl)
  rw [lg_entry_eq]
  generalize (lg_sl ([.ref (ga 2), .int (nI a0), .int a1]) ++ List.replicate (3 - (lg_sl ([.ref (ga 2), .int (nI a0), .int a1])).length) Slot.unset).toArray = ls at hl ⊢
  have hl : lv_has ls 3 [(0, .ref (ga 2)), (1, .int (nI a0)), (2, .int a1)] := hl
  refine lv_iload_n hx hb dX2_looksLike_0 rfl (lv_at hl 2 rfl) ?_
  refine lv_if_ne (tgt := 19) hx hb dX2_looksLike_1 (by decide) (fun c1 => ?_) (fun c1 => ?_)
  · refine lv_iload_n hx hb dX2_looksLike_19 rfl (lv_at hl 2 rfl) ?_
    refine lv_iconst (v := 1) hx hb dX2_looksLike_20 (by decide) ?_
    refine lv_icmp_ne (tgt := 41) hx hb dX2_looksLike_21 (by decide) (fun c2 => ?_) (fun c2 => ?_)
    · refine lv_aload_n hx hb dX2_looksLike_41 rfl (lv_at hl 0 rfl) ?_
      refine va_get (D := D) (ci := 2) (v := .ref (ga 18)) (C := RX2) (T := TX2) (N := 13) hx hb hts is_looksLike_X2 hown hK hP 0 rfl rfl 2 (by decide) (hts (.fieldLink RX2 18 "SaltStreet$Ground" "snow" "[I") (List.mem_of_getElem? (i := 1) rfl)) (fun _ h9 => h9) rfl dX2_looksLike_42 ?_
      refine lv_iload_n hx hb dX2_looksLike_45 rfl (lv_at hl 1 rfl) ?_
      refine va_iald hx hb hK hP 3 0 (f := ga_snow) rfl rfl (vp_in_nI (by omega) (by decide)) dX2_looksLike_46 ?_
      refine lv_topi (fun z3 _ => ?_)
      refine lv_if_ne (tgt := 62) hx hb dX2_looksLike_47 (by decide) (fun c4 => ?_) (fun c4 => ?_)
      · refine lv_iconst (v := 0) hx hb dX2_looksLike_62 (by decide) ?_
        have hP9 := hP.sub (ws' := [(ga 2, .inr (2, [.ref (ga 16), .ref (ga 17), .ref (ga 18), .ref (ga 19), .ref (ga 20), .int ga_over, .int ga_day, .int ga_rained, .int ga_purse, .int ga_bought, .int ga_washed, .int ga_swept, .int ga_melted])), (ga 16, .inl (kc 0, 8, .inl ga_salt)), (ga 17, .inl (kc 0, 8, .inl ga_sugar)), (ga 18, .inl (kc 0, 8, .inl ga_snow))]) [0, 1, 2, 3] rfl
        have hD9 := hD.sub (ws' := [(ga 2, .inr (2, [.ref (ga 16), .ref (ga 17), .ref (ga 18), .ref (ga 19), .ref (ga 20), .int ga_over, .int ga_day, .int ga_rained, .int ga_purse, .int ga_bought, .int ga_washed, .int ga_swept, .int ga_melted])), (ga 16, .inl (kc 0, 8, .inl ga_salt)), (ga 17, .inl (kc 0, 8, .inl ga_sugar)), (ga 18, .inl (kc 0, 8, .inl ga_snow))]) [0, 1, 2, 3] (by decide) rfl
        exact W.zret (v := 0) hx hb hr rfl (fun t9 ht hW => ⟨⟨0, (), rfl, Or.inl rfl, by rw [ht]; exact hP9, hD9⟩, hS.F ht⟩) hS.2.2 dX2_looksLike_63
      · refine lv_aload_n hx hb dX2_looksLike_50 rfl (lv_at hl 0 rfl) ?_
        refine lv_iload_n hx hb dX2_looksLike_51 rfl (lv_at hl 1 rfl) ?_
        have hPc := hP.sub (ws' := [(ga 2, .inr (2, [.ref (ga 16), .ref (ga 17), .ref (ga 18), .ref (ga 19), .ref (ga 20), .int ga_over, .int ga_day, .int ga_rained, .int ga_purse, .int ga_bought, .int ga_washed, .int ga_swept, .int ga_melted])), (ga 16, .inl (kc 0, 8, .inl ga_salt)), (ga 17, .inl (kc 0, 8, .inl ga_sugar))]) [0, 1, 2] rfl
        have hDc := hD.sub (ws' := [(ga 2, .inr (2, [.ref (ga 16), .ref (ga 17), .ref (ga 18), .ref (ga 19), .ref (ga 20), .int ga_over, .int ga_day, .int ga_rained, .int ga_purse, .int ga_bought, .int ga_washed, .int ga_swept, .int ga_melted])), (ga 16, .inl (kc 0, 8, .inl ga_salt)), (ga 17, .inl (kc 0, 8, .inl ga_sugar))]) [0, 1, 2] (by decide) rfl
        have hFc := va_free (wc := [(ga 2, .inr (2, [.ref (ga 16), .ref (ga 17), .ref (ga 18), .ref (ga 19), .ref (ga 20), .int ga_over, .int ga_day, .int ga_rained, .int ga_purse, .int ga_bought, .int ga_washed, .int ga_swept, .int ga_melted])), (ga 16, .inl (kc 0, 8, .inl ga_salt)), (ga 17, .inl (kc 0, 8, .inl ga_sugar))]) hD hS hA [0, 1, 2] rfl
        refine va_calli (va_runV (As := [.int (nI a0)]) (rest := []) ⟨hx, hb, hml, hown, hts⟩ (s_lying l D kc s.heap.size ga ga_over ga_day ga_rained ga_purse ga_bought ga_washed ga_swept ga_melted ga_salt ga_sugar a0 h_ga_rained (by omega)) (cwV 1 hts gs_looksLike_61_s_lying rfl rfl rfl (by decide +kernel) ⟨Nat.le_of_ble_eq_true rfl, Nat.le_of_ble_eq_true rfl⟩) (preV_ok hPc hDc hE (ci := 2) (q0 := 0) rfl rfl) rfl rfl hl.1 rfl (lv_room (Nat.le_of_ble_eq_true rfl)) dX2_looksLike_52 ⟨Nat.le_of_ble_eq_true rfl, Nat.le_of_ble_eq_true rfl⟩) hS (fun q _ h => hFc q h) hFc (fun r5 u9 t9 H locs ht hvm hw hB hz1 hk1 hS => ?_)
        obtain ⟨hP1, hD1⟩ := hB
        rw [ht] at hP1
        obtain ⟨hP, hD⟩ := va_join (wr := [(ga 18, .inl (kc 0, 8, .inl ga_snow))]) (w1 := [(ga 2, .inr (2, [.ref (ga 16), .ref (ga 17), .ref (ga 18), .ref (ga 19), .ref (ga 20), .int ga_over, .int ga_day, .int ga_rained, .int ga_purse, .int ga_bought, .int ga_washed, .int ga_swept, .int ga_melted])), (ga 16, .inl (kc 0, 8, .inl ga_salt)), (ga 17, .inl (kc 0, 8, .inl ga_sugar))]) hP hD [0, 1, 2] [3] rfl rfl (by decide) (by decide) hk1 hFc hP1 hD1
        have hP : va_P D vwCl [(ga 18, .inl (kc 0, 8, .inl ga_snow)), (ga 2, .inr (2, [.ref (ga 16), .ref (ga 17), .ref (ga 18), .ref (ga 19), .ref (ga 20), .int ga_over, .int ga_day, .int ga_rained, .int ga_purse, .int ga_bought, .int ga_washed, .int ga_swept, .int ga_melted])), (ga 16, .inl (kc 0, 8, .inl ga_salt)), (ga 17, .inl (kc 0, 8, .inl ga_sugar))] H := hP
        have hD : va_D A [(ga 18, .inl (kc 0, 8, .inl ga_snow)), (ga 2, .inr (2, [.ref (ga 16), .ref (ga 17), .ref (ga 18), .ref (ga 19), .ref (ga 20), .int ga_over, .int ga_day, .int ga_rained, .int ga_purse, .int ga_bought, .int ga_washed, .int ga_swept, .int ga_melted])), (ga 16, .inl (kc 0, 8, .inl ga_salt)), (ga 17, .inl (kc 0, 8, .inl ga_sugar))] := hD
        refine lv_if_ne (tgt := 62) hx hb dX2_looksLike_55 (by decide) (fun c6 => ?_) (fun c6 => ?_)
        · refine lv_iconst (v := 0) hx hb dX2_looksLike_62 (by decide) ?_
          have hP9 := hP.sub (ws' := [(ga 2, .inr (2, [.ref (ga 16), .ref (ga 17), .ref (ga 18), .ref (ga 19), .ref (ga 20), .int ga_over, .int ga_day, .int ga_rained, .int ga_purse, .int ga_bought, .int ga_washed, .int ga_swept, .int ga_melted])), (ga 16, .inl (kc 0, 8, .inl ga_salt)), (ga 17, .inl (kc 0, 8, .inl ga_sugar)), (ga 18, .inl (kc 0, 8, .inl ga_snow))]) [1, 2, 3, 0] rfl
          have hD9 := hD.sub (ws' := [(ga 2, .inr (2, [.ref (ga 16), .ref (ga 17), .ref (ga 18), .ref (ga 19), .ref (ga 20), .int ga_over, .int ga_day, .int ga_rained, .int ga_purse, .int ga_bought, .int ga_washed, .int ga_swept, .int ga_melted])), (ga 16, .inl (kc 0, 8, .inl ga_salt)), (ga 17, .inl (kc 0, 8, .inl ga_sugar)), (ga 18, .inl (kc 0, 8, .inl ga_snow))]) [1, 2, 3, 0] (by decide) rfl
          exact W.zret (v := 0) hx hb hr rfl (fun t9 ht hW => ⟨⟨0, (), rfl, Or.inl rfl, by rw [ht]; exact hP9, hD9⟩, hS.F ht⟩) hS.2.2 dX2_looksLike_63
        · refine lv_iconst (v := 1) hx hb dX2_looksLike_58 (by decide) ?_
          refine lv_goto (tgt := 63) hx hb dX2_looksLike_59 (by decide) ?_
          have hP9 := hP.sub (ws' := [(ga 2, .inr (2, [.ref (ga 16), .ref (ga 17), .ref (ga 18), .ref (ga 19), .ref (ga 20), .int ga_over, .int ga_day, .int ga_rained, .int ga_purse, .int ga_bought, .int ga_washed, .int ga_swept, .int ga_melted])), (ga 16, .inl (kc 0, 8, .inl ga_salt)), (ga 17, .inl (kc 0, 8, .inl ga_sugar)), (ga 18, .inl (kc 0, 8, .inl ga_snow))]) [1, 2, 3, 0] rfl
          have hD9 := hD.sub (ws' := [(ga 2, .inr (2, [.ref (ga 16), .ref (ga 17), .ref (ga 18), .ref (ga 19), .ref (ga 20), .int ga_over, .int ga_day, .int ga_rained, .int ga_purse, .int ga_bought, .int ga_washed, .int ga_swept, .int ga_melted])), (ga 16, .inl (kc 0, 8, .inl ga_salt)), (ga 17, .inl (kc 0, 8, .inl ga_sugar)), (ga 18, .inl (kc 0, 8, .inl ga_snow))]) [1, 2, 3, 0] (by decide) rfl
          exact W.zret (v := 1) hx hb hr rfl (fun t9 ht hW => ⟨⟨1, (), rfl, Or.inr rfl, by rw [ht]; exact hP9, hD9⟩, hS.F ht⟩) hS.2.2 dX2_looksLike_63
    · refine lv_aload_n hx hb dX2_looksLike_24 rfl (lv_at hl 0 rfl) ?_
      refine va_get (D := D) (ci := 2) (v := .ref (ga 18)) (C := RX2) (T := TX2) (N := 13) hx hb hts is_looksLike_X2 hown hK hP 0 rfl rfl 2 (by decide) (hts (.fieldLink RX2 18 "SaltStreet$Ground" "snow" "[I") (List.mem_of_getElem? (i := 1) rfl)) (fun _ h9 => h9) rfl dX2_looksLike_25 ?_
      refine lv_iload_n hx hb dX2_looksLike_28 rfl (lv_at hl 1 rfl) ?_
      refine va_iald hx hb hK hP 3 0 (f := ga_snow) rfl rfl (vp_in_nI (by omega) (by decide)) dX2_looksLike_29 ?_
      refine lv_topi (fun z7 _ => ?_)
      refine lv_if_le (tgt := 37) hx hb dX2_looksLike_30 (by decide) (fun c8 => ?_) (fun c8 => ?_)
      · refine lv_iconst (v := 0) hx hb dX2_looksLike_37 (by decide) ?_
        refine lv_goto (tgt := 63) hx hb dX2_looksLike_38 (by decide) ?_
        have hP9 := hP.sub (ws' := [(ga 2, .inr (2, [.ref (ga 16), .ref (ga 17), .ref (ga 18), .ref (ga 19), .ref (ga 20), .int ga_over, .int ga_day, .int ga_rained, .int ga_purse, .int ga_bought, .int ga_washed, .int ga_swept, .int ga_melted])), (ga 16, .inl (kc 0, 8, .inl ga_salt)), (ga 17, .inl (kc 0, 8, .inl ga_sugar)), (ga 18, .inl (kc 0, 8, .inl ga_snow))]) [0, 1, 2, 3] rfl
        have hD9 := hD.sub (ws' := [(ga 2, .inr (2, [.ref (ga 16), .ref (ga 17), .ref (ga 18), .ref (ga 19), .ref (ga 20), .int ga_over, .int ga_day, .int ga_rained, .int ga_purse, .int ga_bought, .int ga_washed, .int ga_swept, .int ga_melted])), (ga 16, .inl (kc 0, 8, .inl ga_salt)), (ga 17, .inl (kc 0, 8, .inl ga_sugar)), (ga 18, .inl (kc 0, 8, .inl ga_snow))]) [0, 1, 2, 3] (by decide) rfl
        exact W.zret (v := 0) hx hb hr rfl (fun t9 ht hW => ⟨⟨0, (), rfl, Or.inl rfl, by rw [ht]; exact hP9, hD9⟩, hS.F ht⟩) hS.2.2 dX2_looksLike_63
      · refine lv_iconst (v := 1) hx hb dX2_looksLike_33 (by decide) ?_
        refine lv_goto (tgt := 63) hx hb dX2_looksLike_34 (by decide) ?_
        have hP9 := hP.sub (ws' := [(ga 2, .inr (2, [.ref (ga 16), .ref (ga 17), .ref (ga 18), .ref (ga 19), .ref (ga 20), .int ga_over, .int ga_day, .int ga_rained, .int ga_purse, .int ga_bought, .int ga_washed, .int ga_swept, .int ga_melted])), (ga 16, .inl (kc 0, 8, .inl ga_salt)), (ga 17, .inl (kc 0, 8, .inl ga_sugar)), (ga 18, .inl (kc 0, 8, .inl ga_snow))]) [0, 1, 2, 3] rfl
        have hD9 := hD.sub (ws' := [(ga 2, .inr (2, [.ref (ga 16), .ref (ga 17), .ref (ga 18), .ref (ga 19), .ref (ga 20), .int ga_over, .int ga_day, .int ga_rained, .int ga_purse, .int ga_bought, .int ga_washed, .int ga_swept, .int ga_melted])), (ga 16, .inl (kc 0, 8, .inl ga_salt)), (ga 17, .inl (kc 0, 8, .inl ga_sugar)), (ga 18, .inl (kc 0, 8, .inl ga_snow))]) [0, 1, 2, 3] (by decide) rfl
        exact W.zret (v := 1) hx hb hr rfl (fun t9 ht hW => ⟨⟨1, (), rfl, Or.inr rfl, by rw [ht]; exact hP9, hD9⟩, hS.F ht⟩) hS.2.2 dX2_looksLike_63
  · refine lv_aload_n hx hb dX2_looksLike_4 rfl (lv_at hl 0 rfl) ?_
    refine va_get (D := D) (ci := 2) (v := .ref (ga 17)) (C := RX2) (T := TX2) (N := 13) hx hb hts is_looksLike_X2 hown hK hP 0 rfl rfl 1 (by decide) (hts (.fieldLink RX2 15 "SaltStreet$Ground" "sugar" "[I") (List.mem_of_getElem? (i := 5) rfl)) (fun _ h9 => h9) rfl dX2_looksLike_5 ?_
    refine lv_iload_n hx hb dX2_looksLike_8 rfl (lv_at hl 1 rfl) ?_
    refine va_iald hx hb hK hP 2 0 (f := ga_sugar) rfl rfl (vp_in_nI (by omega) (by decide)) dX2_looksLike_9 ?_
    refine lv_topi (fun z9 _ => ?_)
    refine lv_if_le (tgt := 17) hx hb dX2_looksLike_10 (by decide) (fun c10 => ?_) (fun c10 => ?_)
    · refine lv_iconst (v := 0) hx hb dX2_looksLike_17 (by decide) ?_
      have hP9 := hP.sub (ws' := [(ga 2, .inr (2, [.ref (ga 16), .ref (ga 17), .ref (ga 18), .ref (ga 19), .ref (ga 20), .int ga_over, .int ga_day, .int ga_rained, .int ga_purse, .int ga_bought, .int ga_washed, .int ga_swept, .int ga_melted])), (ga 16, .inl (kc 0, 8, .inl ga_salt)), (ga 17, .inl (kc 0, 8, .inl ga_sugar)), (ga 18, .inl (kc 0, 8, .inl ga_snow))]) [0, 1, 2, 3] rfl
      have hD9 := hD.sub (ws' := [(ga 2, .inr (2, [.ref (ga 16), .ref (ga 17), .ref (ga 18), .ref (ga 19), .ref (ga 20), .int ga_over, .int ga_day, .int ga_rained, .int ga_purse, .int ga_bought, .int ga_washed, .int ga_swept, .int ga_melted])), (ga 16, .inl (kc 0, 8, .inl ga_salt)), (ga 17, .inl (kc 0, 8, .inl ga_sugar)), (ga 18, .inl (kc 0, 8, .inl ga_snow))]) [0, 1, 2, 3] (by decide) rfl
      exact W.zret (v := 0) hx hb hr rfl (fun t9 ht hW => ⟨⟨0, (), rfl, Or.inl rfl, by rw [ht]; exact hP9, hD9⟩, hS.F ht⟩) hS.2.2 dX2_looksLike_18
    · refine lv_iconst (v := 1) hx hb dX2_looksLike_13 (by decide) ?_
      refine lv_goto (tgt := 18) hx hb dX2_looksLike_14 (by decide) ?_
      have hP9 := hP.sub (ws' := [(ga 2, .inr (2, [.ref (ga 16), .ref (ga 17), .ref (ga 18), .ref (ga 19), .ref (ga 20), .int ga_over, .int ga_day, .int ga_rained, .int ga_purse, .int ga_bought, .int ga_washed, .int ga_swept, .int ga_melted])), (ga 16, .inl (kc 0, 8, .inl ga_salt)), (ga 17, .inl (kc 0, 8, .inl ga_sugar)), (ga 18, .inl (kc 0, 8, .inl ga_snow))]) [0, 1, 2, 3] rfl
      have hD9 := hD.sub (ws' := [(ga 2, .inr (2, [.ref (ga 16), .ref (ga 17), .ref (ga 18), .ref (ga 19), .ref (ga 20), .int ga_over, .int ga_day, .int ga_rained, .int ga_purse, .int ga_bought, .int ga_washed, .int ga_swept, .int ga_melted])), (ga 16, .inl (kc 0, 8, .inl ga_salt)), (ga 17, .inl (kc 0, 8, .inl ga_sugar)), (ga 18, .inl (kc 0, 8, .inl ga_snow))]) [0, 1, 2, 3] (by decide) rfl
      exact W.zret (v := 1) hx hb hr rfl (fun t9 ht hW => ⟨⟨1, (), rfl, Or.inr rfl, by rw [ht]; exact hP9, hD9⟩, hS.F ht⟩) hS.2.2 dX2_looksLike_18
theorem dX2_addSalt_0 : decode cX2_addSalt 0 = .ok (.aload_n 0, 1) := by decide +kernel
theorem dX2_addSalt_1 : decode cX2_addSalt 1 = .ok (.getfield 9, 3) := by decide +kernel
theorem dX2_addSalt_4 : decode cX2_addSalt 4 = .ok (.iload_n 1, 1) := by decide +kernel
theorem dX2_addSalt_5 : decode cX2_addSalt 5 = .ok (.dup2, 1) := by decide +kernel
theorem dX2_addSalt_6 : decode cX2_addSalt 6 = .ok (.iaload, 1) := by decide +kernel
theorem dX2_addSalt_7 : decode cX2_addSalt 7 = .ok (.iload_n 2, 1) := by decide +kernel
theorem dX2_addSalt_8 : decode cX2_addSalt 8 = .ok (.iadd, 1) := by decide +kernel
theorem dX2_addSalt_9 : decode cX2_addSalt 9 = .ok (.iastore, 1) := by decide +kernel
theorem dX2_addSalt_10 : decode cX2_addSalt 10 = .ok (.aload_n 0, 1) := by decide +kernel
theorem dX2_addSalt_11 : decode cX2_addSalt 11 = .ok (.dup, 1) := by decide +kernel
theorem dX2_addSalt_12 : decode cX2_addSalt 12 = .ok (.getfield 45, 3) := by decide +kernel
theorem dX2_addSalt_15 : decode cX2_addSalt 15 = .ok (.iload_n 2, 1) := by decide +kernel
theorem dX2_addSalt_16 : decode cX2_addSalt 16 = .ok (.iadd, 1) := by decide +kernel
theorem dX2_addSalt_17 : decode cX2_addSalt 17 = .ok (.putfield 45, 3) := by decide +kernel
theorem dX2_addSalt_20 : decode cX2_addSalt 20 = .ok (.return_, 1) := by decide +kernel
def vds_addSalt : List Cond := [.code yX2_addSalt cX2_addSalt 3 none, .fieldLink RX2 9 "SaltStreet$Ground" "salt" "[I", .fieldLink RX2 45 "SaltStreet$Ground" "bought" "I"]
def vs_addSalt : List Cond := vds_addSalt ++ (wsX20 ++ ([] : List Cond))
theorem is_addSalt_X2 : ∀ w ∈ wsX20, w ∈ vs_addSalt := fun _ h => List.mem_append_right _ (List.mem_append_left _ h)
set_option maxHeartbeats 4000000 in
set_option maxRecDepth 100000 in
theorem s_addSalt (l : Launch) (D : va_G) (kc : Nat → ClassId) (sz : Nat) (ga : Nat → Nat) (ga_over : Int32) (ga_day : Int32) (ga_rained : Int32) (ga_purse : Int32) (ga_bought : Int32) (ga_washed : Int32) (ga_swept : Int32) (ga_melted : Int32) (ga_salt : Nat → Int32) (a0 : Nat) (a1 : Int32) (h_ga_rained : ga_rained = 0 ∨ ga_rained = 1) (h_a0 : a0 ≤ 7) : Met l yX2_addSalt vs_addSalt ({ frames := 0, cells := 0, slots := 0, locals := 0 }) (va_Pc [.ref (ga 2), .int (nI a0), .int a1] (wPre D kc [(ga 2, .inr (2, [.ref (ga 16), .ref (ga 17), .ref (ga 18), .ref (ga 19), .ref (ga 20), .int ga_over, .int ga_day, .int ga_rained, .int ga_purse, .int ga_bought, .int ga_washed, .int ga_swept, .int ga_melted])), (ga 16, .inl (kc 0, 8, .inl ga_salt))] sz)) (va_Qv (fun (_ : Unit) => True) (fun (_ : Unit) (t9 : State) => ∃ ga_bought_n : Int32, ∃ ga_salt_n : Nat → Int32, va_P D vwCl [(ga 2, .inr (2, [.ref (ga 16), .ref (ga 17), .ref (ga 18), .ref (ga 19), .ref (ga 20), .int ga_over, .int ga_day, .int ga_rained, .int ga_purse, .int ga_bought_n, .int ga_washed, .int ga_swept, .int ga_melted])), (ga 16, .inl (kc 0, 8, .inl ga_salt_n))] t9.heap ∧ va_D (va_A [(ga 2, .inr (2, [.ref (ga 16), .ref (ga 17), .ref (ga 18), .ref (ga 19), .ref (ga 20), .int ga_over, .int ga_day, .int ga_rained, .int ga_purse, .int ga_bought, .int ga_washed, .int ga_swept, .int ga_melted])), (ga 16, .inl (kc 0, 8, .inl ga_salt))] sz) [(ga 2, .inr (2, [.ref (ga 16), .ref (ga 17), .ref (ga 18), .ref (ga 19), .ref (ga 20), .int ga_over, .int ga_day, .int ga_rained, .int ga_purse, .int ga_bought_n, .int ga_washed, .int ga_swept, .int ga_melted])), (ga 16, .inl (kc 0, 8, .inl ga_salt_n))]) (va_A [(ga 2, .inr (2, [.ref (ga 16), .ref (ga 17), .ref (ga 18), .ref (ga 19), .ref (ga 20), .int ga_over, .int ga_day, .int ga_rained, .int ga_purse, .int ga_bought, .int ga_washed, .int ga_swept, .int ga_melted])), (ga 16, .inl (kc 0, 8, .inl ga_salt))] sz)) 0 0 (va_A [(ga 2, .inr (2, [.ref (ga 16), .ref (ga 17), .ref (ga 18), .ref (ga 19), .ref (ga 20), .int ga_over, .int ga_day, .int ga_rained, .int ga_purse, .int ga_bought, .int ga_washed, .int ga_swept, .int ga_melted])), (ga 16, .inl (kc 0, 8, .inl ga_salt))] sz) := by
  refine Met.ofW (cc := cX2_addSalt) (maxL := 3) (ret := none) (by decide) rfl ?_
  intro p e s m args below meth c s₁ B hml hv
  obtain ⟨rfl, hsz, hP, hE, hD0⟩ := hv
  have hx := B.exec
  have hb := B.bytes
  have hr := B.returns
  have hts := atoms_spec (ws := vs_addSalt) B.pre
  have hown : s.vm.findClass RX2 = some m.cls := findClass_of_methodNamed B.named
  have hlocks := B.notSynchronized
  subst hsz
  have hD := hD0.self (sz := s.heap.size)
  generalize hAe : va_A [(ga 2, .inr (2, [.ref (ga 16), .ref (ga 17), .ref (ga 18), .ref (ga 19), .ref (ga 20), .int ga_over, .int ga_day, .int ga_rained, .int ga_purse, .int ga_bought, .int ga_washed, .int ga_swept, .int ga_melted])), (ga 16, .inl (kc 0, 8, .inl ga_salt))] s.heap.size = A at hD ⊢
  have hA : ∀ q : Nat, s.heap.size ≤ q → A q := fun q h => by rw [← hAe]; exact Or.inr h
  have hS : va_S A s.heap s.heap [] := va_S.rf
  have hK := hE.1
  have hP : va_P D vwCl [(ga 2, .inr (2, [.ref (ga 16), .ref (ga 17), .ref (ga 18), .ref (ga 19), .ref (ga 20), .int ga_over, .int ga_day, .int ga_rained, .int ga_purse, .int ga_bought, .int ga_washed, .int ga_swept, .int ga_melted])), (ga 16, .inl (kc 0, 8, .inl ga_salt))] s.heap := hP
  have hl := lv_entry ([.ref (ga 2), .int (nI a0), .int a1]) (n := 3) (Nat.le_of_ble_eq_true rfl)
  rw [lg_entry_eq]
  generalize (lg_sl ([.ref (ga 2), .int (nI a0), .int a1]) ++ List.replicate (3 - (lg_sl ([.ref (ga 2), .int (nI a0), .int a1])).length) Slot.unset).toArray = ls at hl ⊢
  have hl : lv_has ls 3 [(0, .ref (ga 2)), (1, .int (nI a0)), (2, .int a1)] := hl
  refine lv_aload_n hx hb dX2_addSalt_0 rfl (lv_at hl 0 rfl) ?_
  refine va_get (D := D) (ci := 2) (v := .ref (ga 16)) (C := RX2) (T := TX2) (N := 13) hx hb hts is_addSalt_X2 hown hK hP 0 rfl rfl 0 (by decide) (hts (.fieldLink RX2 9 "SaltStreet$Ground" "salt" "[I") (List.mem_of_getElem? (i := 1) rfl)) (fun _ h9 => h9) rfl dX2_addSalt_1 ?_
  refine lv_iload_n hx hb dX2_addSalt_4 rfl (lv_at hl 1 rfl) ?_
  refine lv_dup2_11 hx hb dX2_addSalt_5 rfl rfl ?_
  refine va_iald hx hb hK hP 1 0 (f := ga_salt) rfl rfl (vp_in_nI (by omega) (by decide)) dX2_addSalt_6 ?_
  refine lv_topi (fun z1 _ => ?_)
  refine lv_iload_n hx hb dX2_addSalt_7 rfl (lv_at hl 2 rfl) ?_
  refine lv_iadd hx hb dX2_addSalt_8 ?_
  refine lv_topi (fun z2 _ => ?_)
  refine va_iast hx hb hK hP hD hS 1 0 (f := ga_salt) rfl rfl (vp_in_nI (by omega) (by decide)) dX2_addSalt_9 (fun H locs hP hD hS => ?_)
  have hP : va_P D vwCl [(ga 2, .inr (2, [.ref (ga 16), .ref (ga 17), .ref (ga 18), .ref (ga 19), .ref (ga 20), .int ga_over, .int ga_day, .int ga_rained, .int ga_purse, .int ga_bought, .int ga_washed, .int ga_swept, .int ga_melted])), (ga 16, .inl (kc 0, 8, .inl (upd ga_salt ((nI a0) : Int32).toNatClampNeg z2)))] H := hP
  have hD : va_D A [(ga 2, .inr (2, [.ref (ga 16), .ref (ga 17), .ref (ga 18), .ref (ga 19), .ref (ga 20), .int ga_over, .int ga_day, .int ga_rained, .int ga_purse, .int ga_bought, .int ga_washed, .int ga_swept, .int ga_melted])), (ga 16, .inl (kc 0, 8, .inl (upd ga_salt ((nI a0) : Int32).toNatClampNeg z2)))] := hD
  generalize (upd ga_salt ((nI a0) : Int32).toNatClampNeg z2) = f3 at hP hD
  refine lv_aload_n hx hb dX2_addSalt_10 rfl (lv_at hl 0 rfl) ?_
  refine lv_dup hx hb dX2_addSalt_11 rfl ?_
  refine va_get (D := D) (ci := 2) (v := .int ga_bought) (C := RX2) (T := TX2) (N := 13) hx hb hts is_addSalt_X2 hown hK hP 0 rfl rfl 9 (by decide) (hts (.fieldLink RX2 45 "SaltStreet$Ground" "bought" "I") (List.mem_of_getElem? (i := 2) rfl)) (fun _ h9 => h9) rfl dX2_addSalt_12 ?_
  refine lv_iload_n hx hb dX2_addSalt_15 rfl (lv_at hl 2 rfl) ?_
  refine lv_iadd hx hb dX2_addSalt_16 ?_
  refine lv_topi (fun z4 _ => ?_)
  refine va_put (D := D) (ci := 2) (v := .int z4) (ty := .int) (C := RX2) (T := TX2) (N := 13) hx hb hts is_addSalt_X2 tyX2 tyX2_ok nmX2 hown hK hP hD hS 0 rfl rfl 9 (by decide) (hts (.fieldLink RX2 45 "SaltStreet$Ground" "bought" "I") (List.mem_of_getElem? (i := 2) rfl)) (fun _ h9 => h9) rfl (by decide +kernel) rfl rfl (Nat.le_of_ble_eq_true rfl) dX2_addSalt_17 (fun H locs hP hD hS => ?_)
  have hP : va_P D vwCl [(ga 2, .inr (2, [.ref (ga 16), .ref (ga 17), .ref (ga 18), .ref (ga 19), .ref (ga 20), .int ga_over, .int ga_day, .int ga_rained, .int ga_purse, .int z4, .int ga_washed, .int ga_swept, .int ga_melted])), (ga 16, .inl (kc 0, 8, .inl f3))] H := hP
  have hD : va_D A [(ga 2, .inr (2, [.ref (ga 16), .ref (ga 17), .ref (ga 18), .ref (ga 19), .ref (ga 20), .int ga_over, .int ga_day, .int ga_rained, .int ga_purse, .int z4, .int ga_washed, .int ga_swept, .int ga_melted])), (ga 16, .inl (kc 0, 8, .inl f3))] := hD
  have hP9 := hP.sub (ws' := [(ga 2, .inr (2, [.ref (ga 16), .ref (ga 17), .ref (ga 18), .ref (ga 19), .ref (ga 20), .int ga_over, .int ga_day, .int ga_rained, .int ga_purse, .int z4, .int ga_washed, .int ga_swept, .int ga_melted])), (ga 16, .inl (kc 0, 8, .inl f3))]) [0, 1] rfl
  have hD9 := hD.sub (ws' := [(ga 2, .inr (2, [.ref (ga 16), .ref (ga 17), .ref (ga 18), .ref (ga 19), .ref (ga 20), .int ga_over, .int ga_day, .int ga_rained, .int ga_purse, .int z4, .int ga_washed, .int ga_swept, .int ga_melted])), (ga 16, .inl (kc 0, 8, .inl f3))]) [0, 1] (by decide) rfl
  exact W.vret hx hb hr (fun t9 ht hW => ⟨⟨(), rfl, trivial, z4, f3, by rw [ht]; exact hP9, hD9⟩, hS.F ht⟩) hS.2.2 dX2_addSalt_20
theorem dX2_addBought_0 : decode cX2_addBought 0 = .ok (.iload_n 3, 1) := by decide +kernel
theorem dX2_addBought_1 : decode cX2_addBought 1 = .ok (.aload_n 1, 1) := by decide +kernel
theorem dX2_addBought_2 : decode cX2_addBought 2 = .ok (.getfield 74, 3) := by decide +kernel
theorem dX2_addBought_5 : decode cX2_addBought 5 = .ok (.iload_n 2, 1) := by decide +kernel
theorem dX2_addBought_6 : decode cX2_addBought 6 = .ok (.iaload, 1) := by decide +kernel
theorem dX2_addBought_7 : decode cX2_addBought 7 = .ok (.imul, 1) := by decide +kernel
theorem dX2_addBought_8 : decode cX2_addBought 8 = .ok (.bipush 16, 2) := by decide +kernel
theorem dX2_addBought_10 : decode cX2_addBought 10 = .ok (.idiv, 1) := by decide +kernel
theorem dX2_addBought_11 : decode cX2_addBought 11 = .ok (.istore 5, 2) := by decide +kernel
theorem dX2_addBought_13 : decode cX2_addBought 13 = .ok (.aload_n 0, 1) := by decide +kernel
theorem dX2_addBought_14 : decode cX2_addBought 14 = .ok (.getfield 24, 3) := by decide +kernel
theorem dX2_addBought_17 : decode cX2_addBought 17 = .ok (.iload_n 2, 1) := by decide +kernel
theorem dX2_addBought_18 : decode cX2_addBought 18 = .ok (.dup2, 1) := by decide +kernel
theorem dX2_addBought_19 : decode cX2_addBought 19 = .ok (.iaload, 1) := by decide +kernel
theorem dX2_addBought_20 : decode cX2_addBought 20 = .ok (.iload_n 3, 1) := by decide +kernel
theorem dX2_addBought_21 : decode cX2_addBought 21 = .ok (.isub, 1) := by decide +kernel
theorem dX2_addBought_22 : decode cX2_addBought 22 = .ok (.iastore, 1) := by decide +kernel
theorem dX2_addBought_23 : decode cX2_addBought 23 = .ok (.aload_n 0, 1) := by decide +kernel
theorem dX2_addBought_24 : decode cX2_addBought 24 = .ok (.dup, 1) := by decide +kernel
theorem dX2_addBought_25 : decode cX2_addBought 25 = .ok (.getfield 42, 3) := by decide +kernel
theorem dX2_addBought_28 : decode cX2_addBought 28 = .ok (.iload_n 3, 1) := by decide +kernel
theorem dX2_addBought_29 : decode cX2_addBought 29 = .ok (.aload_n 1, 1) := by decide +kernel
theorem dX2_addBought_30 : decode cX2_addBought 30 = .ok (.getfield 77, 3) := by decide +kernel
theorem dX2_addBought_33 : decode cX2_addBought 33 = .ok (.iload_n 2, 1) := by decide +kernel
theorem dX2_addBought_34 : decode cX2_addBought 34 = .ok (.iaload, 1) := by decide +kernel
theorem dX2_addBought_35 : decode cX2_addBought 35 = .ok (.imul, 1) := by decide +kernel
theorem dX2_addBought_36 : decode cX2_addBought 36 = .ok (.isub, 1) := by decide +kernel
theorem dX2_addBought_37 : decode cX2_addBought 37 = .ok (.putfield 42, 3) := by decide +kernel
theorem dX2_addBought_40 : decode cX2_addBought 40 = .ok (.aload_n 0, 1) := by decide +kernel
theorem dX2_addBought_41 : decode cX2_addBought 41 = .ok (.iload 4, 2) := by decide +kernel
theorem dX2_addBought_43 : decode cX2_addBought 43 = .ok (.iload_n 3, 1) := by decide +kernel
theorem dX2_addBought_44 : decode cX2_addBought 44 = .ok (.iload 5, 2) := by decide +kernel
theorem dX2_addBought_46 : decode cX2_addBought 46 = .ok (.isub, 1) := by decide +kernel
theorem dX2_addBought_47 : decode cX2_addBought 47 = .ok (.invokevirtual 80, 3) := by decide +kernel
theorem dX2_addBought_50 : decode cX2_addBought 50 = .ok (.aload_n 0, 1) := by decide +kernel
theorem dX2_addBought_51 : decode cX2_addBought 51 = .ok (.getfield 15, 3) := by decide +kernel
theorem dX2_addBought_54 : decode cX2_addBought 54 = .ok (.iload 4, 2) := by decide +kernel
theorem dX2_addBought_56 : decode cX2_addBought 56 = .ok (.dup2, 1) := by decide +kernel
theorem dX2_addBought_57 : decode cX2_addBought 57 = .ok (.iaload, 1) := by decide +kernel
theorem dX2_addBought_58 : decode cX2_addBought 58 = .ok (.iload 5, 2) := by decide +kernel
theorem dX2_addBought_60 : decode cX2_addBought 60 = .ok (.iadd, 1) := by decide +kernel
theorem dX2_addBought_61 : decode cX2_addBought 61 = .ok (.iastore, 1) := by decide +kernel
theorem dX2_addBought_62 : decode cX2_addBought 62 = .ok (.aload_n 0, 1) := by decide +kernel
theorem dX2_addBought_63 : decode cX2_addBought 63 = .ok (.dup, 1) := by decide +kernel
theorem dX2_addBought_64 : decode cX2_addBought 64 = .ok (.getfield 45, 3) := by decide +kernel
theorem dX2_addBought_67 : decode cX2_addBought 67 = .ok (.iload 5, 2) := by decide +kernel
theorem dX2_addBought_69 : decode cX2_addBought 69 = .ok (.iadd, 1) := by decide +kernel
theorem dX2_addBought_70 : decode cX2_addBought 70 = .ok (.putfield 45, 3) := by decide +kernel
theorem dX2_addBought_73 : decode cX2_addBought 73 = .ok (.iload 5, 2) := by decide +kernel
theorem dX2_addBought_75 : decode cX2_addBought 75 = .ok (.ireturn, 1) := by decide +kernel
def vds_addBought : List Cond := [.code yX2_addBought cX2_addBought 6 (some .int), .fieldLink RX2 24 "SaltStreet$Ground" "stock" "[I", .fieldLink RX2 42 "SaltStreet$Ground" "purse" "I", .methodLink RX2 80 yX2_addSalt, .code yX2_addSalt cX2_addSalt 3 none, .fieldLink RX2 9 "SaltStreet$Ground" "salt" "[I", .fieldLink RX2 45 "SaltStreet$Ground" "bought" "I", .instanceMethod yX2_addSalt, .selects RX2 yX2_addSalt yX2_addSalt, .initialized RX2, .fieldLink RX2 15 "SaltStreet$Ground" "sugar" "[I"]
def vs_addBought : List Cond := vds_addBought ++ (wsX40 ++ (wsX20 ++ ([] : List Cond)))
theorem is_addBought_X4 : ∀ w ∈ wsX40, w ∈ vs_addBought := fun _ h => List.mem_append_right _ (List.mem_append_left _ h)
theorem is_addBought_X2 : ∀ w ∈ wsX20, w ∈ vs_addBought := fun _ h => List.mem_append_right _ (List.mem_append_right _ (List.mem_append_left _ h))
set_option maxRecDepth 20000 in
theorem gs_addBought_80_s_addSalt : GoodIn vs_addBought (wsV RX2 80 RX2 yX2_addSalt vs_addSalt) := (goodIn_app (goodIn_r _ [3, 7, 8, 9] rfl (by decide +kernel)) (goodIn_app (goodIn_r vds_addSalt [4, 5, 6] rfl (by decide +kernel)) (goodIn_app (goodIn_sub is_addBought_X2 gdX2) goodIn_nil)))
set_option maxHeartbeats 4000000 in
set_option maxRecDepth 100000 in
theorem s_addBought (l : Launch) (D : va_G) (kc : Nat → ClassId) (sz : Nat) (na : Nat → Nat) (ga : Nat → Nat) (na_named : Nat) (na_houses : Nat) (na_quarrels : Nat) (na_cats : Nat) (na_grocers : Nat) (na_gone : Int32) (na_washes : Int32) (na_goneCounts : Int32) (na_price : Nat → Int32) (na_sweet : Nat → Int32) (ga_over : Int32) (ga_day : Int32) (ga_rained : Int32) (ga_purse : Int32) (ga_bought : Int32) (ga_washed : Int32) (ga_swept : Int32) (ga_melted : Int32) (ga_salt : Nat → Int32) (ga_sugar : Nat → Int32) (ga_stock : Nat → Int32) (a0 : Nat) (a1 : Int32) (a2 : Nat) (h_na_named : na_named ≤ 24) (h_na_houses : na_houses ≤ 8) (h_na_quarrels : na_quarrels ≤ 8) (h_na_cats : na_cats ≤ 4) (h_na_grocers : na_grocers ≤ 4) (h_na_goneCounts : na_goneCounts = 0 ∨ na_goneCounts = 1) (h_ga_rained : ga_rained = 0 ∨ ga_rained = 1) (h_a0 : a0 ≤ 3) (h_a2 : a2 ≤ 7) : Met l yX2_addBought vs_addBought ({ frames := 1, cells := 0, slots := 0, locals := 22 }) (va_Pc [.ref (ga 2), .ref (na 1), .int (nI a0), .int a1, .int (nI a2)] (wPre D kc [(na 1, .inr (4, [.ref (na 4), .ref (na 5), .ref (na 6), .ref (na 7), .ref (na 8), .ref (na 9), .ref (na 10), .ref (na 11), .ref (na 12), .ref (na 13), .ref (na 14), .ref (na 15), .int (nI na_named), .int (nI na_houses), .int (nI na_quarrels), .int (nI na_cats), .int (nI na_grocers), .int na_gone, .int na_washes, .int na_goneCounts])), (na 14, .inl (kc 0, 4, .inl na_price)), (na 15, .inl (kc 0, 4, .inl na_sweet)), (ga 2, .inr (2, [.ref (ga 16), .ref (ga 17), .ref (ga 18), .ref (ga 19), .ref (ga 20), .int ga_over, .int ga_day, .int ga_rained, .int ga_purse, .int ga_bought, .int ga_washed, .int ga_swept, .int ga_melted])), (ga 16, .inl (kc 0, 8, .inl ga_salt)), (ga 17, .inl (kc 0, 8, .inl ga_sugar)), (ga 20, .inl (kc 0, 4, .inl ga_stock))] sz)) (va_Qi (fun (r : Int32) (_ : Unit) => True) (fun (_ : Unit) (t9 : State) => ∃ ga_purse_n : Int32, ∃ ga_bought_n : Int32, ∃ ga_salt_n : Nat → Int32, ∃ ga_sugar_n : Nat → Int32, ∃ ga_stock_n : Nat → Int32, va_P D vwCl [(na 1, .inr (4, [.ref (na 4), .ref (na 5), .ref (na 6), .ref (na 7), .ref (na 8), .ref (na 9), .ref (na 10), .ref (na 11), .ref (na 12), .ref (na 13), .ref (na 14), .ref (na 15), .int (nI na_named), .int (nI na_houses), .int (nI na_quarrels), .int (nI na_cats), .int (nI na_grocers), .int na_gone, .int na_washes, .int na_goneCounts])), (na 14, .inl (kc 0, 4, .inl na_price)), (na 15, .inl (kc 0, 4, .inl na_sweet)), (ga 2, .inr (2, [.ref (ga 16), .ref (ga 17), .ref (ga 18), .ref (ga 19), .ref (ga 20), .int ga_over, .int ga_day, .int ga_rained, .int ga_purse_n, .int ga_bought_n, .int ga_washed, .int ga_swept, .int ga_melted])), (ga 16, .inl (kc 0, 8, .inl ga_salt_n)), (ga 17, .inl (kc 0, 8, .inl ga_sugar_n)), (ga 20, .inl (kc 0, 4, .inl ga_stock_n))] t9.heap ∧ va_D (va_A [(na 1, .inr (4, [.ref (na 4), .ref (na 5), .ref (na 6), .ref (na 7), .ref (na 8), .ref (na 9), .ref (na 10), .ref (na 11), .ref (na 12), .ref (na 13), .ref (na 14), .ref (na 15), .int (nI na_named), .int (nI na_houses), .int (nI na_quarrels), .int (nI na_cats), .int (nI na_grocers), .int na_gone, .int na_washes, .int na_goneCounts])), (na 14, .inl (kc 0, 4, .inl na_price)), (na 15, .inl (kc 0, 4, .inl na_sweet)), (ga 2, .inr (2, [.ref (ga 16), .ref (ga 17), .ref (ga 18), .ref (ga 19), .ref (ga 20), .int ga_over, .int ga_day, .int ga_rained, .int ga_purse, .int ga_bought, .int ga_washed, .int ga_swept, .int ga_melted])), (ga 16, .inl (kc 0, 8, .inl ga_salt)), (ga 17, .inl (kc 0, 8, .inl ga_sugar)), (ga 20, .inl (kc 0, 4, .inl ga_stock))] sz) [(na 1, .inr (4, [.ref (na 4), .ref (na 5), .ref (na 6), .ref (na 7), .ref (na 8), .ref (na 9), .ref (na 10), .ref (na 11), .ref (na 12), .ref (na 13), .ref (na 14), .ref (na 15), .int (nI na_named), .int (nI na_houses), .int (nI na_quarrels), .int (nI na_cats), .int (nI na_grocers), .int na_gone, .int na_washes, .int na_goneCounts])), (na 14, .inl (kc 0, 4, .inl na_price)), (na 15, .inl (kc 0, 4, .inl na_sweet)), (ga 2, .inr (2, [.ref (ga 16), .ref (ga 17), .ref (ga 18), .ref (ga 19), .ref (ga 20), .int ga_over, .int ga_day, .int ga_rained, .int ga_purse_n, .int ga_bought_n, .int ga_washed, .int ga_swept, .int ga_melted])), (ga 16, .inl (kc 0, 8, .inl ga_salt_n)), (ga 17, .inl (kc 0, 8, .inl ga_sugar_n)), (ga 20, .inl (kc 0, 4, .inl ga_stock_n))]) (va_A [(na 1, .inr (4, [.ref (na 4), .ref (na 5), .ref (na 6), .ref (na 7), .ref (na 8), .ref (na 9), .ref (na 10), .ref (na 11), .ref (na 12), .ref (na 13), .ref (na 14), .ref (na 15), .int (nI na_named), .int (nI na_houses), .int (nI na_quarrels), .int (nI na_cats), .int (nI na_grocers), .int na_gone, .int na_washes, .int na_goneCounts])), (na 14, .inl (kc 0, 4, .inl na_price)), (na 15, .inl (kc 0, 4, .inl na_sweet)), (ga 2, .inr (2, [.ref (ga 16), .ref (ga 17), .ref (ga 18), .ref (ga 19), .ref (ga 20), .int ga_over, .int ga_day, .int ga_rained, .int ga_purse, .int ga_bought, .int ga_washed, .int ga_swept, .int ga_melted])), (ga 16, .inl (kc 0, 8, .inl ga_salt)), (ga 17, .inl (kc 0, 8, .inl ga_sugar)), (ga 20, .inl (kc 0, 4, .inl ga_stock))] sz)) 0 0 (va_A [(na 1, .inr (4, [.ref (na 4), .ref (na 5), .ref (na 6), .ref (na 7), .ref (na 8), .ref (na 9), .ref (na 10), .ref (na 11), .ref (na 12), .ref (na 13), .ref (na 14), .ref (na 15), .int (nI na_named), .int (nI na_houses), .int (nI na_quarrels), .int (nI na_cats), .int (nI na_grocers), .int na_gone, .int na_washes, .int na_goneCounts])), (na 14, .inl (kc 0, 4, .inl na_price)), (na 15, .inl (kc 0, 4, .inl na_sweet)), (ga 2, .inr (2, [.ref (ga 16), .ref (ga 17), .ref (ga 18), .ref (ga 19), .ref (ga 20), .int ga_over, .int ga_day, .int ga_rained, .int ga_purse, .int ga_bought, .int ga_washed, .int ga_swept, .int ga_melted])), (ga 16, .inl (kc 0, 8, .inl ga_salt)), (ga 17, .inl (kc 0, 8, .inl ga_sugar)), (ga 20, .inl (kc 0, 4, .inl ga_stock))] sz) := by
  refine Met.ofW (cc := cX2_addBought) (maxL := 6) (ret := (some .int)) (by decide) rfl ?_
  intro p e s m args below meth c s₁ B hml hv
  obtain ⟨rfl, hsz, hP, hE, hD0⟩ := hv
  have hx := B.exec
  have hb := B.bytes
  have hr := B.returns
  have hts := atoms_spec (ws := vs_addBought) B.pre
  have hown : s.vm.findClass RX2 = some m.cls := findClass_of_methodNamed B.named
  have hlocks := B.notSynchronized
  subst hsz
  have hD := hD0.self (sz := s.heap.size)
  generalize hAe : va_A [(na 1, .inr (4, [.ref (na 4), .ref (na 5), .ref (na 6), .ref (na 7), .ref (na 8), .ref (na 9), .ref (na 10), .ref (na 11), .ref (na 12), .ref (na 13), .ref (na 14), .ref (na 15), .int (nI na_named), .int (nI na_houses), .int (nI na_quarrels), .int (nI na_cats), .int (nI na_grocers), .int na_gone, .int na_washes, .int na_goneCounts])), (na 14, .inl (kc 0, 4, .inl na_price)), (na 15, .inl (kc 0, 4, .inl na_sweet)), (ga 2, .inr (2, [.ref (ga 16), .ref (ga 17), .ref (ga 18), .ref (ga 19), .ref (ga 20), .int ga_over, .int ga_day, .int ga_rained, .int ga_purse, .int ga_bought, .int ga_washed, .int ga_swept, .int ga_melted])), (ga 16, .inl (kc 0, 8, .inl ga_salt)), (ga 17, .inl (kc 0, 8, .inl ga_sugar)), (ga 20, .inl (kc 0, 4, .inl ga_stock))] s.heap.size = A at hD ⊢
  have hA : ∀ q : Nat, s.heap.size ≤ q → A q := fun q h => by rw [← hAe]; exact Or.inr h
  have hS : va_S A s.heap s.heap [] := va_S.rf
  have hK := hE.1
  have hP : va_P D vwCl [(na 1, .inr (4, [.ref (na 4), .ref (na 5), .ref (na 6), .ref (na 7), .ref (na 8), .ref (na 9), .ref (na 10), .ref (na 11), .ref (na 12), .ref (na 13), .ref (na 14), .ref (na 15), .int (nI na_named), .int (nI na_houses), .int (nI na_quarrels), .int (nI na_cats), .int (nI na_grocers), .int na_gone, .int na_washes, .int na_goneCounts])), (na 14, .inl (kc 0, 4, .inl na_price)), (na 15, .inl (kc 0, 4, .inl na_sweet)), (ga 2, .inr (2, [.ref (ga 16), .ref (ga 17), .ref (ga 18), .ref (ga 19), .ref (ga 20), .int ga_over, .int ga_day, .int ga_rained, .int ga_purse, .int ga_bought, .int ga_washed, .int ga_swept, .int ga_melted])), (ga 16, .inl (kc 0, 8, .inl ga_salt)), (ga 17, .inl (kc 0, 8, .inl ga_sugar)), (ga 20, .inl (kc 0, 4, .inl ga_stock))] s.heap := hP
  have hl := lv_entry ([.ref (ga 2), .ref (na 1), .int (nI a0), .int a1, .int (nI a2)]) (n := 6) (Nat.le_of_ble_eq_true rfl)
  rw [lg_entry_eq]
  generalize (lg_sl ([.ref (ga 2), .ref (na 1), .int (nI a0), .int a1, .int (nI a2)]) ++ List.replicate (6 - (lg_sl ([.ref (ga 2), .ref (na 1), .int (nI a0), .int a1, .int (nI a2)])).length) Slot.unset).toArray = ls at hl ⊢
  have hl : lv_has ls 6 [(0, .ref (ga 2)), (1, .ref (na 1)), (2, .int (nI a0)), (3, .int a1), (4, .int (nI a2))] := hl
  refine lv_iload_n hx hb dX2_addBought_0 rfl (lv_at hl 3 rfl) ?_
  refine lv_aload_n hx hb dX2_addBought_1 rfl (lv_at hl 1 rfl) ?_
  refine va_getN (D := D) (ci := 4) (v := .ref (na 15)) (C := RX4) (T := TX4) (N := 20) hx hb hts is_addBought_X4 hown hK hP 0 rfl rfl 11 (by decide) (hE.nw 30 rfl) (fun _ h9 => h9) rfl dX2_addBought_2 ?_
  refine lv_iload_n hx hb dX2_addBought_5 rfl (lv_at hl 2 rfl) ?_
  refine va_iald hx hb hK hP 2 0 (f := na_sweet) rfl rfl (vp_in_nI (by omega) (by decide)) dX2_addBought_6 ?_
  refine lv_topi (fun z1 _ => ?_)
  refine lv_imul hx hb dX2_addBought_7 ?_
  refine lv_topi (fun z2 _ => ?_)
  refine lv_bipush (v := 16) hx hb dX2_addBought_8 (by decide) ?_
  refine lv_idiv hx hb dX2_addBought_10 (by decide) ?_
  refine lv_topi (fun z3 _ => ?_)
  refine lv_istore (lv' := [(5, .int z3), (0, .ref (ga 2)), (1, .ref (na 1)), (2, .int (nI a0)), (3, .int a1), (4, .int (nI a2))]) hx hb dX2_addBought_11 hl (by decide) rfl (fun ls hl => ?_)
  refine lv_aload_n hx hb dX2_addBought_13 rfl (lv_at hl 1 rfl) ?_
  refine va_get (D := D) (ci := 2) (v := .ref (ga 20)) (C := RX2) (T := TX2) (N := 13) hx hb hts is_addBought_X2 hown hK hP 3 rfl rfl 4 (by decide) (hts (.fieldLink RX2 24 "SaltStreet$Ground" "stock" "[I") (List.mem_of_getElem? (i := 1) rfl)) (fun _ h9 => h9) rfl dX2_addBought_14 ?_
  refine lv_iload_n hx hb dX2_addBought_17 rfl (lv_at hl 3 rfl) ?_
  refine lv_dup2_11 hx hb dX2_addBought_18 rfl rfl ?_
  refine va_iald hx hb hK hP 6 0 (f := ga_stock) rfl rfl (vp_in_nI (by omega) (by decide)) dX2_addBought_19 ?_
  refine lv_topi (fun z4 _ => ?_)
  refine lv_iload_n hx hb dX2_addBought_20 rfl (lv_at hl 4 rfl) ?_
  refine lv_isub hx hb dX2_addBought_21 ?_
  refine lv_topi (fun z5 _ => ?_)
  refine va_iast hx hb hK hP hD hS 6 0 (f := ga_stock) rfl rfl (vp_in_nI (by omega) (by decide)) dX2_addBought_22 (fun H locs hP hD hS => ?_)
  have hP : va_P D vwCl [(na 1, .inr (4, [.ref (na 4), .ref (na 5), .ref (na 6), .ref (na 7), .ref (na 8), .ref (na 9), .ref (na 10), .ref (na 11), .ref (na 12), .ref (na 13), .ref (na 14), .ref (na 15), .int (nI na_named), .int (nI na_houses), .int (nI na_quarrels), .int (nI na_cats), .int (nI na_grocers), .int na_gone, .int na_washes, .int na_goneCounts])), (na 14, .inl (kc 0, 4, .inl na_price)), (na 15, .inl (kc 0, 4, .inl na_sweet)), (ga 2, .inr (2, [.ref (ga 16), .ref (ga 17), .ref (ga 18), .ref (ga 19), .ref (ga 20), .int ga_over, .int ga_day, .int ga_rained, .int ga_purse, .int ga_bought, .int ga_washed, .int ga_swept, .int ga_melted])), (ga 16, .inl (kc 0, 8, .inl ga_salt)), (ga 17, .inl (kc 0, 8, .inl ga_sugar)), (ga 20, .inl (kc 0, 4, .inl (upd ga_stock ((nI a0) : Int32).toNatClampNeg z5)))] H := hP
  have hD : va_D A [(na 1, .inr (4, [.ref (na 4), .ref (na 5), .ref (na 6), .ref (na 7), .ref (na 8), .ref (na 9), .ref (na 10), .ref (na 11), .ref (na 12), .ref (na 13), .ref (na 14), .ref (na 15), .int (nI na_named), .int (nI na_houses), .int (nI na_quarrels), .int (nI na_cats), .int (nI na_grocers), .int na_gone, .int na_washes, .int na_goneCounts])), (na 14, .inl (kc 0, 4, .inl na_price)), (na 15, .inl (kc 0, 4, .inl na_sweet)), (ga 2, .inr (2, [.ref (ga 16), .ref (ga 17), .ref (ga 18), .ref (ga 19), .ref (ga 20), .int ga_over, .int ga_day, .int ga_rained, .int ga_purse, .int ga_bought, .int ga_washed, .int ga_swept, .int ga_melted])), (ga 16, .inl (kc 0, 8, .inl ga_salt)), (ga 17, .inl (kc 0, 8, .inl ga_sugar)), (ga 20, .inl (kc 0, 4, .inl (upd ga_stock ((nI a0) : Int32).toNatClampNeg z5)))] := hD
  generalize (upd ga_stock ((nI a0) : Int32).toNatClampNeg z5) = f6 at hP hD
  refine lv_aload_n hx hb dX2_addBought_23 rfl (lv_at hl 1 rfl) ?_
  refine lv_dup hx hb dX2_addBought_24 rfl ?_
  refine va_get (D := D) (ci := 2) (v := .int ga_purse) (C := RX2) (T := TX2) (N := 13) hx hb hts is_addBought_X2 hown hK hP 3 rfl rfl 8 (by decide) (hts (.fieldLink RX2 42 "SaltStreet$Ground" "purse" "I") (List.mem_of_getElem? (i := 2) rfl)) (fun _ h9 => h9) rfl dX2_addBought_25 ?_
  refine lv_iload_n hx hb dX2_addBought_28 rfl (lv_at hl 4 rfl) ?_
  refine lv_aload_n hx hb dX2_addBought_29 rfl (lv_at hl 2 rfl) ?_
  refine va_getN (D := D) (ci := 4) (v := .ref (na 14)) (C := RX4) (T := TX4) (N := 20) hx hb hts is_addBought_X4 hown hK hP 0 rfl rfl 10 (by decide) (hE.nw 27 rfl) (fun _ h9 => h9) rfl dX2_addBought_30 ?_
  refine lv_iload_n hx hb dX2_addBought_33 rfl (lv_at hl 3 rfl) ?_
  refine va_iald hx hb hK hP 1 0 (f := na_price) rfl rfl (vp_in_nI (by omega) (by decide)) dX2_addBought_34 ?_
  refine lv_topi (fun z7 _ => ?_)
  refine lv_imul hx hb dX2_addBought_35 ?_
  refine lv_topi (fun z8 _ => ?_)
  refine lv_isub hx hb dX2_addBought_36 ?_
  refine lv_topi (fun z9 _ => ?_)
  refine va_put (D := D) (ci := 2) (v := .int z9) (ty := .int) (C := RX2) (T := TX2) (N := 13) hx hb hts is_addBought_X2 tyX2 tyX2_ok nmX2 hown hK hP hD hS 3 rfl rfl 8 (by decide) (hts (.fieldLink RX2 42 "SaltStreet$Ground" "purse" "I") (List.mem_of_getElem? (i := 2) rfl)) (fun _ h9 => h9) rfl (by decide +kernel) rfl rfl (Nat.le_of_ble_eq_true rfl) dX2_addBought_37 (fun H locs hP hD hS => ?_)
  have hP : va_P D vwCl [(na 1, .inr (4, [.ref (na 4), .ref (na 5), .ref (na 6), .ref (na 7), .ref (na 8), .ref (na 9), .ref (na 10), .ref (na 11), .ref (na 12), .ref (na 13), .ref (na 14), .ref (na 15), .int (nI na_named), .int (nI na_houses), .int (nI na_quarrels), .int (nI na_cats), .int (nI na_grocers), .int na_gone, .int na_washes, .int na_goneCounts])), (na 14, .inl (kc 0, 4, .inl na_price)), (na 15, .inl (kc 0, 4, .inl na_sweet)), (ga 2, .inr (2, [.ref (ga 16), .ref (ga 17), .ref (ga 18), .ref (ga 19), .ref (ga 20), .int ga_over, .int ga_day, .int ga_rained, .int z9, .int ga_bought, .int ga_washed, .int ga_swept, .int ga_melted])), (ga 16, .inl (kc 0, 8, .inl ga_salt)), (ga 17, .inl (kc 0, 8, .inl ga_sugar)), (ga 20, .inl (kc 0, 4, .inl f6))] H := hP
  have hD : va_D A [(na 1, .inr (4, [.ref (na 4), .ref (na 5), .ref (na 6), .ref (na 7), .ref (na 8), .ref (na 9), .ref (na 10), .ref (na 11), .ref (na 12), .ref (na 13), .ref (na 14), .ref (na 15), .int (nI na_named), .int (nI na_houses), .int (nI na_quarrels), .int (nI na_cats), .int (nI na_grocers), .int na_gone, .int na_washes, .int na_goneCounts])), (na 14, .inl (kc 0, 4, .inl na_price)), (na 15, .inl (kc 0, 4, .inl na_sweet)), (ga 2, .inr (2, [.ref (ga 16), .ref (ga 17), .ref (ga 18), .ref (ga 19), .ref (ga 20), .int ga_over, .int ga_day, .int ga_rained, .int z9, .int ga_bought, .int ga_washed, .int ga_swept, .int ga_melted])), (ga 16, .inl (kc 0, 8, .inl ga_salt)), (ga 17, .inl (kc 0, 8, .inl ga_sugar)), (ga 20, .inl (kc 0, 4, .inl f6))] := hD
  refine lv_aload_n hx hb dX2_addBought_40 rfl (lv_at hl 1 rfl) ?_
  refine lv_iload hx hb dX2_addBought_41 (lv_at hl 5 rfl) ?_
  refine lv_iload_n hx hb dX2_addBought_43 rfl (lv_at hl 4 rfl) ?_
  refine lv_iload hx hb dX2_addBought_44 (lv_at hl 0 rfl) ?_
  refine lv_isub hx hb dX2_addBought_46 ?_
  refine lv_topi (fun z10 _ => ?_)
  have hPc := hP.sub (ws' := [(ga 2, .inr (2, [.ref (ga 16), .ref (ga 17), .ref (ga 18), .ref (ga 19), .ref (ga 20), .int ga_over, .int ga_day, .int ga_rained, .int z9, .int ga_bought, .int ga_washed, .int ga_swept, .int ga_melted])), (ga 16, .inl (kc 0, 8, .inl ga_salt))]) [3, 4] rfl
  have hDc := hD.sub (ws' := [(ga 2, .inr (2, [.ref (ga 16), .ref (ga 17), .ref (ga 18), .ref (ga 19), .ref (ga 20), .int ga_over, .int ga_day, .int ga_rained, .int z9, .int ga_bought, .int ga_washed, .int ga_swept, .int ga_melted])), (ga 16, .inl (kc 0, 8, .inl ga_salt))]) [3, 4] (by decide) rfl
  have hFc := va_free (wc := [(ga 2, .inr (2, [.ref (ga 16), .ref (ga 17), .ref (ga 18), .ref (ga 19), .ref (ga 20), .int ga_over, .int ga_day, .int ga_rained, .int z9, .int ga_bought, .int ga_washed, .int ga_swept, .int ga_melted])), (ga 16, .inl (kc 0, 8, .inl ga_salt))]) hD hS hA [3, 4] rfl
  refine va_callv (va_runV (As := [.int (nI a2), .int z10]) (rest := []) ⟨hx, hb, hml, hown, hts⟩ (s_addSalt l D kc H.size ga ga_over ga_day ga_rained z9 ga_bought ga_washed ga_swept ga_melted ga_salt a2 z10 h_ga_rained (by omega)) (cwV 2 hts gs_addBought_80_s_addSalt rfl rfl rfl (by decide +kernel) ⟨Nat.le_of_ble_eq_true rfl, Nat.le_of_ble_eq_true rfl⟩) (preV_ok hPc hDc hE (ci := 2) (q0 := 0) rfl rfl) rfl rfl hl.1 rfl (lv_room (Nat.le_of_ble_eq_true rfl)) dX2_addBought_47 ⟨Nat.le_of_ble_eq_true rfl, Nat.le_of_ble_eq_true rfl⟩) hS (fun q _ h => hFc q h) hFc (fun u9 t9 H locs ht hvm hw hB hz1 hk1 hS => ?_)
  obtain ⟨z12, f13, hP1, hD1⟩ := hB
  rw [ht] at hP1
  obtain ⟨hP, hD⟩ := va_join (wr := [(na 1, .inr (4, [.ref (na 4), .ref (na 5), .ref (na 6), .ref (na 7), .ref (na 8), .ref (na 9), .ref (na 10), .ref (na 11), .ref (na 12), .ref (na 13), .ref (na 14), .ref (na 15), .int (nI na_named), .int (nI na_houses), .int (nI na_quarrels), .int (nI na_cats), .int (nI na_grocers), .int na_gone, .int na_washes, .int na_goneCounts])), (na 14, .inl (kc 0, 4, .inl na_price)), (na 15, .inl (kc 0, 4, .inl na_sweet)), (ga 17, .inl (kc 0, 8, .inl ga_sugar)), (ga 20, .inl (kc 0, 4, .inl f6))]) (w1 := [(ga 2, .inr (2, [.ref (ga 16), .ref (ga 17), .ref (ga 18), .ref (ga 19), .ref (ga 20), .int ga_over, .int ga_day, .int ga_rained, .int z9, .int z12, .int ga_washed, .int ga_swept, .int ga_melted])), (ga 16, .inl (kc 0, 8, .inl f13))]) hP hD [3, 4] [0, 1, 2, 5, 6] rfl rfl (by decide) (by decide) hk1 hFc hP1 hD1
  have hP : va_P D vwCl [(na 1, .inr (4, [.ref (na 4), .ref (na 5), .ref (na 6), .ref (na 7), .ref (na 8), .ref (na 9), .ref (na 10), .ref (na 11), .ref (na 12), .ref (na 13), .ref (na 14), .ref (na 15), .int (nI na_named), .int (nI na_houses), .int (nI na_quarrels), .int (nI na_cats), .int (nI na_grocers), .int na_gone, .int na_washes, .int na_goneCounts])), (na 14, .inl (kc 0, 4, .inl na_price)), (na 15, .inl (kc 0, 4, .inl na_sweet)), (ga 17, .inl (kc 0, 8, .inl ga_sugar)), (ga 20, .inl (kc 0, 4, .inl f6)), (ga 2, .inr (2, [.ref (ga 16), .ref (ga 17), .ref (ga 18), .ref (ga 19), .ref (ga 20), .int ga_over, .int ga_day, .int ga_rained, .int z9, .int z12, .int ga_washed, .int ga_swept, .int ga_melted])), (ga 16, .inl (kc 0, 8, .inl f13))] H := hP
  have hD : va_D A [(na 1, .inr (4, [.ref (na 4), .ref (na 5), .ref (na 6), .ref (na 7), .ref (na 8), .ref (na 9), .ref (na 10), .ref (na 11), .ref (na 12), .ref (na 13), .ref (na 14), .ref (na 15), .int (nI na_named), .int (nI na_houses), .int (nI na_quarrels), .int (nI na_cats), .int (nI na_grocers), .int na_gone, .int na_washes, .int na_goneCounts])), (na 14, .inl (kc 0, 4, .inl na_price)), (na 15, .inl (kc 0, 4, .inl na_sweet)), (ga 17, .inl (kc 0, 8, .inl ga_sugar)), (ga 20, .inl (kc 0, 4, .inl f6)), (ga 2, .inr (2, [.ref (ga 16), .ref (ga 17), .ref (ga 18), .ref (ga 19), .ref (ga 20), .int ga_over, .int ga_day, .int ga_rained, .int z9, .int z12, .int ga_washed, .int ga_swept, .int ga_melted])), (ga 16, .inl (kc 0, 8, .inl f13))] := hD
  refine lv_aload_n hx hb dX2_addBought_50 rfl (lv_at hl 1 rfl) ?_
  refine va_get (D := D) (ci := 2) (v := .ref (ga 17)) (C := RX2) (T := TX2) (N := 13) hx hb hts is_addBought_X2 hown hK hP 5 rfl rfl 1 (by decide) (hts (.fieldLink RX2 15 "SaltStreet$Ground" "sugar" "[I") (List.mem_of_getElem? (i := 10) rfl)) (fun _ h9 => h9) rfl dX2_addBought_51 ?_
  refine lv_iload hx hb dX2_addBought_54 (lv_at hl 5 rfl) ?_
  refine lv_dup2_11 hx hb dX2_addBought_56 rfl rfl ?_
  refine va_iald hx hb hK hP 3 0 (f := ga_sugar) rfl rfl (vp_in_nI (by omega) (by decide)) dX2_addBought_57 ?_
  refine lv_topi (fun z14 _ => ?_)
  refine lv_iload hx hb dX2_addBought_58 (lv_at hl 0 rfl) ?_
  refine lv_iadd hx hb dX2_addBought_60 ?_
  refine lv_topi (fun z15 _ => ?_)
  refine va_iast hx hb hK hP hD hS 3 0 (f := ga_sugar) rfl rfl (vp_in_nI (by omega) (by decide)) dX2_addBought_61 (fun H locs hP hD hS => ?_)
  have hP : va_P D vwCl [(na 1, .inr (4, [.ref (na 4), .ref (na 5), .ref (na 6), .ref (na 7), .ref (na 8), .ref (na 9), .ref (na 10), .ref (na 11), .ref (na 12), .ref (na 13), .ref (na 14), .ref (na 15), .int (nI na_named), .int (nI na_houses), .int (nI na_quarrels), .int (nI na_cats), .int (nI na_grocers), .int na_gone, .int na_washes, .int na_goneCounts])), (na 14, .inl (kc 0, 4, .inl na_price)), (na 15, .inl (kc 0, 4, .inl na_sweet)), (ga 17, .inl (kc 0, 8, .inl (upd ga_sugar ((nI a2) : Int32).toNatClampNeg z15))), (ga 20, .inl (kc 0, 4, .inl f6)), (ga 2, .inr (2, [.ref (ga 16), .ref (ga 17), .ref (ga 18), .ref (ga 19), .ref (ga 20), .int ga_over, .int ga_day, .int ga_rained, .int z9, .int z12, .int ga_washed, .int ga_swept, .int ga_melted])), (ga 16, .inl (kc 0, 8, .inl f13))] H := hP
  have hD : va_D A [(na 1, .inr (4, [.ref (na 4), .ref (na 5), .ref (na 6), .ref (na 7), .ref (na 8), .ref (na 9), .ref (na 10), .ref (na 11), .ref (na 12), .ref (na 13), .ref (na 14), .ref (na 15), .int (nI na_named), .int (nI na_houses), .int (nI na_quarrels), .int (nI na_cats), .int (nI na_grocers), .int na_gone, .int na_washes, .int na_goneCounts])), (na 14, .inl (kc 0, 4, .inl na_price)), (na 15, .inl (kc 0, 4, .inl na_sweet)), (ga 17, .inl (kc 0, 8, .inl (upd ga_sugar ((nI a2) : Int32).toNatClampNeg z15))), (ga 20, .inl (kc 0, 4, .inl f6)), (ga 2, .inr (2, [.ref (ga 16), .ref (ga 17), .ref (ga 18), .ref (ga 19), .ref (ga 20), .int ga_over, .int ga_day, .int ga_rained, .int z9, .int z12, .int ga_washed, .int ga_swept, .int ga_melted])), (ga 16, .inl (kc 0, 8, .inl f13))] := hD
  generalize (upd ga_sugar ((nI a2) : Int32).toNatClampNeg z15) = f16 at hP hD
  refine lv_aload_n hx hb dX2_addBought_62 rfl (lv_at hl 1 rfl) ?_
  refine lv_dup hx hb dX2_addBought_63 rfl ?_
  refine va_get (D := D) (ci := 2) (v := .int z12) (C := RX2) (T := TX2) (N := 13) hx hb hts is_addBought_X2 hown hK hP 5 rfl rfl 9 (by decide) (hts (.fieldLink RX2 45 "SaltStreet$Ground" "bought" "I") (List.mem_of_getElem? (i := 6) rfl)) (fun _ h9 => h9) rfl dX2_addBought_64 ?_
  refine lv_iload hx hb dX2_addBought_67 (lv_at hl 0 rfl) ?_
  refine lv_iadd hx hb dX2_addBought_69 ?_
  refine lv_topi (fun z17 _ => ?_)
  refine va_put (D := D) (ci := 2) (v := .int z17) (ty := .int) (C := RX2) (T := TX2) (N := 13) hx hb hts is_addBought_X2 tyX2 tyX2_ok nmX2 hown hK hP hD hS 5 rfl rfl 9 (by decide) (hts (.fieldLink RX2 45 "SaltStreet$Ground" "bought" "I") (List.mem_of_getElem? (i := 6) rfl)) (fun _ h9 => h9) rfl (by decide +kernel) rfl rfl (Nat.le_of_ble_eq_true rfl) dX2_addBought_70 (fun H locs hP hD hS => ?_)
  have hP : va_P D vwCl [(na 1, .inr (4, [.ref (na 4), .ref (na 5), .ref (na 6), .ref (na 7), .ref (na 8), .ref (na 9), .ref (na 10), .ref (na 11), .ref (na 12), .ref (na 13), .ref (na 14), .ref (na 15), .int (nI na_named), .int (nI na_houses), .int (nI na_quarrels), .int (nI na_cats), .int (nI na_grocers), .int na_gone, .int na_washes, .int na_goneCounts])), (na 14, .inl (kc 0, 4, .inl na_price)), (na 15, .inl (kc 0, 4, .inl na_sweet)), (ga 17, .inl (kc 0, 8, .inl f16)), (ga 20, .inl (kc 0, 4, .inl f6)), (ga 2, .inr (2, [.ref (ga 16), .ref (ga 17), .ref (ga 18), .ref (ga 19), .ref (ga 20), .int ga_over, .int ga_day, .int ga_rained, .int z9, .int z17, .int ga_washed, .int ga_swept, .int ga_melted])), (ga 16, .inl (kc 0, 8, .inl f13))] H := hP
  have hD : va_D A [(na 1, .inr (4, [.ref (na 4), .ref (na 5), .ref (na 6), .ref (na 7), .ref (na 8), .ref (na 9), .ref (na 10), .ref (na 11), .ref (na 12), .ref (na 13), .ref (na 14), .ref (na 15), .int (nI na_named), .int (nI na_houses), .int (nI na_quarrels), .int (nI na_cats), .int (nI na_grocers), .int na_gone, .int na_washes, .int na_goneCounts])), (na 14, .inl (kc 0, 4, .inl na_price)), (na 15, .inl (kc 0, 4, .inl na_sweet)), (ga 17, .inl (kc 0, 8, .inl f16)), (ga 20, .inl (kc 0, 4, .inl f6)), (ga 2, .inr (2, [.ref (ga 16), .ref (ga 17), .ref (ga 18), .ref (ga 19), .ref (ga 20), .int ga_over, .int ga_day, .int ga_rained, .int z9, .int z17, .int ga_washed, .int ga_swept, .int ga_melted])), (ga 16, .inl (kc 0, 8, .inl f13))] := hD
  refine lv_iload hx hb dX2_addBought_73 (lv_at hl 0 rfl) ?_
  have hP9 := hP.sub (ws' := [(na 1, .inr (4, [.ref (na 4), .ref (na 5), .ref (na 6), .ref (na 7), .ref (na 8), .ref (na 9), .ref (na 10), .ref (na 11), .ref (na 12), .ref (na 13), .ref (na 14), .ref (na 15), .int (nI na_named), .int (nI na_houses), .int (nI na_quarrels), .int (nI na_cats), .int (nI na_grocers), .int na_gone, .int na_washes, .int na_goneCounts])), (na 14, .inl (kc 0, 4, .inl na_price)), (na 15, .inl (kc 0, 4, .inl na_sweet)), (ga 2, .inr (2, [.ref (ga 16), .ref (ga 17), .ref (ga 18), .ref (ga 19), .ref (ga 20), .int ga_over, .int ga_day, .int ga_rained, .int z9, .int z17, .int ga_washed, .int ga_swept, .int ga_melted])), (ga 16, .inl (kc 0, 8, .inl f13)), (ga 17, .inl (kc 0, 8, .inl f16)), (ga 20, .inl (kc 0, 4, .inl f6))]) [0, 1, 2, 5, 6, 3, 4] rfl
  have hD9 := hD.sub (ws' := [(na 1, .inr (4, [.ref (na 4), .ref (na 5), .ref (na 6), .ref (na 7), .ref (na 8), .ref (na 9), .ref (na 10), .ref (na 11), .ref (na 12), .ref (na 13), .ref (na 14), .ref (na 15), .int (nI na_named), .int (nI na_houses), .int (nI na_quarrels), .int (nI na_cats), .int (nI na_grocers), .int na_gone, .int na_washes, .int na_goneCounts])), (na 14, .inl (kc 0, 4, .inl na_price)), (na 15, .inl (kc 0, 4, .inl na_sweet)), (ga 2, .inr (2, [.ref (ga 16), .ref (ga 17), .ref (ga 18), .ref (ga 19), .ref (ga 20), .int ga_over, .int ga_day, .int ga_rained, .int z9, .int z17, .int ga_washed, .int ga_swept, .int ga_melted])), (ga 16, .inl (kc 0, 8, .inl f13)), (ga 17, .inl (kc 0, 8, .inl f16)), (ga 20, .inl (kc 0, 4, .inl f6))]) [0, 1, 2, 5, 6, 3, 4] (by decide) rfl
  exact W.iret (v := z3) hx hb hr (fun t9 ht hW => ⟨⟨z3, (), rfl, trivial, z9, z17, f13, f16, f6, by rw [ht]; exact hP9, hD9⟩, hS.F ht⟩) hS.2.2 dX2_addBought_75
theorem dX2_clearStep_0 : decode cX2_clearStep 0 = .ok (.aload_n 0, 1) := by decide +kernel
theorem dX2_clearStep_1 : decode cX2_clearStep 1 = .ok (.iload_n 1, 1) := by decide +kernel
theorem dX2_clearStep_2 : decode cX2_clearStep 2 = .ok (.invokevirtual 61, 3) := by decide +kernel
theorem dX2_clearStep_5 : decode cX2_clearStep 5 = .ok (.istore_n 2, 1) := by decide +kernel
theorem dX2_clearStep_6 : decode cX2_clearStep 6 = .ok (.aload_n 0, 1) := by decide +kernel
theorem dX2_clearStep_7 : decode cX2_clearStep 7 = .ok (.getfield 9, 3) := by decide +kernel
theorem dX2_clearStep_10 : decode cX2_clearStep 10 = .ok (.iload_n 1, 1) := by decide +kernel
theorem dX2_clearStep_11 : decode cX2_clearStep 11 = .ok (.iconst 0, 1) := by decide +kernel
theorem dX2_clearStep_12 : decode cX2_clearStep 12 = .ok (.iastore, 1) := by decide +kernel
theorem dX2_clearStep_13 : decode cX2_clearStep 13 = .ok (.aload_n 0, 1) := by decide +kernel
theorem dX2_clearStep_14 : decode cX2_clearStep 14 = .ok (.getfield 15, 3) := by decide +kernel
theorem dX2_clearStep_17 : decode cX2_clearStep 17 = .ok (.iload_n 1, 1) := by decide +kernel
theorem dX2_clearStep_18 : decode cX2_clearStep 18 = .ok (.iconst 0, 1) := by decide +kernel
theorem dX2_clearStep_19 : decode cX2_clearStep 19 = .ok (.iastore, 1) := by decide +kernel
theorem dX2_clearStep_20 : decode cX2_clearStep 20 = .ok (.aload_n 0, 1) := by decide +kernel
theorem dX2_clearStep_21 : decode cX2_clearStep 21 = .ok (.dup, 1) := by decide +kernel
theorem dX2_clearStep_22 : decode cX2_clearStep 22 = .ok (.getfield 51, 3) := by decide +kernel
theorem dX2_clearStep_25 : decode cX2_clearStep 25 = .ok (.iload_n 2, 1) := by decide +kernel
theorem dX2_clearStep_26 : decode cX2_clearStep 26 = .ok (.iadd, 1) := by decide +kernel
theorem dX2_clearStep_27 : decode cX2_clearStep 27 = .ok (.putfield 51, 3) := by decide +kernel
theorem dX2_clearStep_30 : decode cX2_clearStep 30 = .ok (.iload_n 2, 1) := by decide +kernel
theorem dX2_clearStep_31 : decode cX2_clearStep 31 = .ok (.ireturn, 1) := by decide +kernel
def vds_clearStep : List Cond := [.code yX2_clearStep cX2_clearStep 3 (some .int), .methodLink RX2 61 yX2_lying, .code yX2_lying cX2_lying 2 (some .int), .fieldLink RX2 9 "SaltStreet$Ground" "salt" "[I", .fieldLink RX2 15 "SaltStreet$Ground" "sugar" "[I", .instanceMethod yX2_lying, .selects RX2 yX2_lying yX2_lying, .initialized RX2, .fieldLink RX2 51 "SaltStreet$Ground" "swept" "I"]
def vs_clearStep : List Cond := vds_clearStep ++ (wsX20 ++ ([] : List Cond))
theorem is_clearStep_X2 : ∀ w ∈ wsX20, w ∈ vs_clearStep := fun _ h => List.mem_append_right _ (List.mem_append_left _ h)
set_option maxRecDepth 20000 in
theorem gs_clearStep_61_s_lying : GoodIn vs_clearStep (wsV RX2 61 RX2 yX2_lying vs_lying) := (goodIn_app (goodIn_r _ [1, 5, 6, 7] rfl (by decide +kernel)) (goodIn_app (goodIn_r vds_lying [2, 3, 4] rfl (by decide +kernel)) (goodIn_app (goodIn_sub is_clearStep_X2 gdX2) goodIn_nil)))
set_option maxHeartbeats 4000000 in
set_option maxRecDepth 100000 in
theorem s_clearStep (l : Launch) (D : va_G) (kc : Nat → ClassId) (sz : Nat) (ga : Nat → Nat) (ga_over : Int32) (ga_day : Int32) (ga_rained : Int32) (ga_purse : Int32) (ga_bought : Int32) (ga_washed : Int32) (ga_swept : Int32) (ga_melted : Int32) (ga_salt : Nat → Int32) (ga_sugar : Nat → Int32) (a0 : Nat) (h_ga_rained : ga_rained = 0 ∨ ga_rained = 1) (h_a0 : a0 ≤ 7) : Met l yX2_clearStep vs_clearStep ({ frames := 1, cells := 0, slots := 0, locals := 21 }) (va_Pc [.ref (ga 2), .int (nI a0)] (wPre D kc [(ga 2, .inr (2, [.ref (ga 16), .ref (ga 17), .ref (ga 18), .ref (ga 19), .ref (ga 20), .int ga_over, .int ga_day, .int ga_rained, .int ga_purse, .int ga_bought, .int ga_washed, .int ga_swept, .int ga_melted])), (ga 16, .inl (kc 0, 8, .inl ga_salt)), (ga 17, .inl (kc 0, 8, .inl ga_sugar))] sz)) (va_Qi (fun (r : Int32) (_ : Unit) => True) (fun (_ : Unit) (t9 : State) => ∃ ga_swept_n : Int32, ∃ ga_salt_n : Nat → Int32, ∃ ga_sugar_n : Nat → Int32, va_P D vwCl [(ga 2, .inr (2, [.ref (ga 16), .ref (ga 17), .ref (ga 18), .ref (ga 19), .ref (ga 20), .int ga_over, .int ga_day, .int ga_rained, .int ga_purse, .int ga_bought, .int ga_washed, .int ga_swept_n, .int ga_melted])), (ga 16, .inl (kc 0, 8, .inl ga_salt_n)), (ga 17, .inl (kc 0, 8, .inl ga_sugar_n))] t9.heap ∧ va_D (va_A [(ga 2, .inr (2, [.ref (ga 16), .ref (ga 17), .ref (ga 18), .ref (ga 19), .ref (ga 20), .int ga_over, .int ga_day, .int ga_rained, .int ga_purse, .int ga_bought, .int ga_washed, .int ga_swept, .int ga_melted])), (ga 16, .inl (kc 0, 8, .inl ga_salt)), (ga 17, .inl (kc 0, 8, .inl ga_sugar))] sz) [(ga 2, .inr (2, [.ref (ga 16), .ref (ga 17), .ref (ga 18), .ref (ga 19), .ref (ga 20), .int ga_over, .int ga_day, .int ga_rained, .int ga_purse, .int ga_bought, .int ga_washed, .int ga_swept_n, .int ga_melted])), (ga 16, .inl (kc 0, 8, .inl ga_salt_n)), (ga 17, .inl (kc 0, 8, .inl ga_sugar_n))]) (va_A [(ga 2, .inr (2, [.ref (ga 16), .ref (ga 17), .ref (ga 18), .ref (ga 19), .ref (ga 20), .int ga_over, .int ga_day, .int ga_rained, .int ga_purse, .int ga_bought, .int ga_washed, .int ga_swept, .int ga_melted])), (ga 16, .inl (kc 0, 8, .inl ga_salt)), (ga 17, .inl (kc 0, 8, .inl ga_sugar))] sz)) 0 0 (va_A [(ga 2, .inr (2, [.ref (ga 16), .ref (ga 17), .ref (ga 18), .ref (ga 19), .ref (ga 20), .int ga_over, .int ga_day, .int ga_rained, .int ga_purse, .int ga_bought, .int ga_washed, .int ga_swept, .int ga_melted])), (ga 16, .inl (kc 0, 8, .inl ga_salt)), (ga 17, .inl (kc 0, 8, .inl ga_sugar))] sz) := by
  refine Met.ofW (cc := cX2_clearStep) (maxL := 3) (ret := (some .int)) (by decide) rfl ?_
  intro p e s m args below meth c s₁ B hml hv
  obtain ⟨rfl, hsz, hP, hE, hD0⟩ := hv
  have hx := B.exec
  have hb := B.bytes
  have hr := B.returns
  have hts := atoms_spec (ws := vs_clearStep) B.pre
  have hown : s.vm.findClass RX2 = some m.cls := findClass_of_methodNamed B.named
  have hlocks := B.notSynchronized
  subst hsz
  have hD := hD0.self (sz := s.heap.size)
  generalize hAe : va_A [(ga 2, .inr (2, [.ref (ga 16), .ref (ga 17), .ref (ga 18), .ref (ga 19), .ref (ga 20), .int ga_over, .int ga_day, .int ga_rained, .int ga_purse, .int ga_bought, .int ga_washed, .int ga_swept, .int ga_melted])), (ga 16, .inl (kc 0, 8, .inl ga_salt)), (ga 17, .inl (kc 0, 8, .inl ga_sugar))] s.heap.size = A at hD ⊢
  have hA : ∀ q : Nat, s.heap.size ≤ q → A q := fun q h => by rw [← hAe]; exact Or.inr h
  have hS : va_S A s.heap s.heap [] := va_S.rf
  have hK := hE.1
  have hP : va_P D vwCl [(ga 2, .inr (2, [.ref (ga 16), .ref (ga 17), .ref (ga 18), .ref (ga 19), .ref (ga 20), .int ga_over, .int ga_day, .int ga_rained, .int ga_purse, .int ga_bought, .int ga_washed, .int ga_swept, .int ga_melted])), (ga 16, .inl (kc 0, 8, .inl ga_salt)), (ga 17, .inl (kc 0, 8, .inl ga_sugar))] s.heap := hP
  have hl := lv_entry ([.ref (ga 2), .int (nI a0)]) (n := 3) (Nat.le_of_ble_eq_true rfl)
  rw [lg_entry_eq]
  generalize (lg_sl ([.ref (ga 2), .int (nI a0)]) ++ List.replicate (3 - (lg_sl ([.ref (ga 2), .int (nI a0)])).length) Slot.unset).toArray = ls at hl ⊢
  have hl : lv_has ls 3 [(0, .ref (ga 2)), (1, .int (nI a0))] := hl
  refine lv_aload_n hx hb dX2_clearStep_0 rfl (lv_at hl 0 rfl) ?_
  refine lv_iload_n hx hb dX2_clearStep_1 rfl (lv_at hl 1 rfl) ?_
  have hPc := hP.sub (ws' := [(ga 2, .inr (2, [.ref (ga 16), .ref (ga 17), .ref (ga 18), .ref (ga 19), .ref (ga 20), .int ga_over, .int ga_day, .int ga_rained, .int ga_purse, .int ga_bought, .int ga_washed, .int ga_swept, .int ga_melted])), (ga 16, .inl (kc 0, 8, .inl ga_salt)), (ga 17, .inl (kc 0, 8, .inl ga_sugar))]) [0, 1, 2] rfl
  have hDc := hD.sub (ws' := [(ga 2, .inr (2, [.ref (ga 16), .ref (ga 17), .ref (ga 18), .ref (ga 19), .ref (ga 20), .int ga_over, .int ga_day, .int ga_rained, .int ga_purse, .int ga_bought, .int ga_washed, .int ga_swept, .int ga_melted])), (ga 16, .inl (kc 0, 8, .inl ga_salt)), (ga 17, .inl (kc 0, 8, .inl ga_sugar))]) [0, 1, 2] (by decide) rfl
  have hFc := va_free (wc := [(ga 2, .inr (2, [.ref (ga 16), .ref (ga 17), .ref (ga 18), .ref (ga 19), .ref (ga 20), .int ga_over, .int ga_day, .int ga_rained, .int ga_purse, .int ga_bought, .int ga_washed, .int ga_swept, .int ga_melted])), (ga 16, .inl (kc 0, 8, .inl ga_salt)), (ga 17, .inl (kc 0, 8, .inl ga_sugar))]) hD hS hA [0, 1, 2] rfl
  refine va_calli (va_runV (As := [.int (nI a0)]) (rest := []) ⟨hx, hb, hml, hown, hts⟩ (s_lying l D kc s.heap.size ga ga_over ga_day ga_rained ga_purse ga_bought ga_washed ga_swept ga_melted ga_salt ga_sugar a0 h_ga_rained (by omega)) (cwV 1 hts gs_clearStep_61_s_lying rfl rfl rfl (by decide +kernel) ⟨Nat.le_of_ble_eq_true rfl, Nat.le_of_ble_eq_true rfl⟩) (preV_ok hPc hDc hE (ci := 2) (q0 := 0) rfl rfl) rfl rfl hl.1 rfl (lv_room (Nat.le_of_ble_eq_true rfl)) dX2_clearStep_2 ⟨Nat.le_of_ble_eq_true rfl, Nat.le_of_ble_eq_true rfl⟩) hS (fun q _ h => hFc q h) hFc (fun r1 u9 t9 H locs ht hvm hw hB hz1 hk1 hS => ?_)
  obtain ⟨hP1, hD1⟩ := hB
  rw [ht] at hP1
  obtain ⟨hP, hD⟩ := va_join (wr := []) (w1 := [(ga 2, .inr (2, [.ref (ga 16), .ref (ga 17), .ref (ga 18), .ref (ga 19), .ref (ga 20), .int ga_over, .int ga_day, .int ga_rained, .int ga_purse, .int ga_bought, .int ga_washed, .int ga_swept, .int ga_melted])), (ga 16, .inl (kc 0, 8, .inl ga_salt)), (ga 17, .inl (kc 0, 8, .inl ga_sugar))]) hP hD [0, 1, 2] [] rfl rfl (by decide) (by decide) hk1 hFc hP1 hD1
  have hP : va_P D vwCl [(ga 2, .inr (2, [.ref (ga 16), .ref (ga 17), .ref (ga 18), .ref (ga 19), .ref (ga 20), .int ga_over, .int ga_day, .int ga_rained, .int ga_purse, .int ga_bought, .int ga_washed, .int ga_swept, .int ga_melted])), (ga 16, .inl (kc 0, 8, .inl ga_salt)), (ga 17, .inl (kc 0, 8, .inl ga_sugar))] H := hP
  have hD : va_D A [(ga 2, .inr (2, [.ref (ga 16), .ref (ga 17), .ref (ga 18), .ref (ga 19), .ref (ga 20), .int ga_over, .int ga_day, .int ga_rained, .int ga_purse, .int ga_bought, .int ga_washed, .int ga_swept, .int ga_melted])), (ga 16, .inl (kc 0, 8, .inl ga_salt)), (ga 17, .inl (kc 0, 8, .inl ga_sugar))] := hD
  refine lv_istore_n (lv' := [(2, .int r1), (0, .ref (ga 2)), (1, .int (nI a0))]) hx hb dX2_clearStep_5 rfl hl (by decide) rfl (fun ls hl => ?_)
  refine lv_aload_n hx hb dX2_clearStep_6 rfl (lv_at hl 1 rfl) ?_
  refine va_get (D := D) (ci := 2) (v := .ref (ga 16)) (C := RX2) (T := TX2) (N := 13) hx hb hts is_clearStep_X2 hown hK hP 0 rfl rfl 0 (by decide) (hts (.fieldLink RX2 9 "SaltStreet$Ground" "salt" "[I") (List.mem_of_getElem? (i := 3) rfl)) (fun _ h9 => h9) rfl dX2_clearStep_7 ?_
  refine lv_iload_n hx hb dX2_clearStep_10 rfl (lv_at hl 2 rfl) ?_
  refine lv_iconst (v := 0) hx hb dX2_clearStep_11 (by decide) ?_
  refine va_iast hx hb hK hP hD hS 1 0 (f := ga_salt) rfl rfl (vp_in_nI (by omega) (by decide)) dX2_clearStep_12 (fun H locs hP hD hS => ?_)
  have hP : va_P D vwCl [(ga 2, .inr (2, [.ref (ga 16), .ref (ga 17), .ref (ga 18), .ref (ga 19), .ref (ga 20), .int ga_over, .int ga_day, .int ga_rained, .int ga_purse, .int ga_bought, .int ga_washed, .int ga_swept, .int ga_melted])), (ga 16, .inl (kc 0, 8, .inl (upd ga_salt ((nI a0) : Int32).toNatClampNeg 0))), (ga 17, .inl (kc 0, 8, .inl ga_sugar))] H := hP
  have hD : va_D A [(ga 2, .inr (2, [.ref (ga 16), .ref (ga 17), .ref (ga 18), .ref (ga 19), .ref (ga 20), .int ga_over, .int ga_day, .int ga_rained, .int ga_purse, .int ga_bought, .int ga_washed, .int ga_swept, .int ga_melted])), (ga 16, .inl (kc 0, 8, .inl (upd ga_salt ((nI a0) : Int32).toNatClampNeg 0))), (ga 17, .inl (kc 0, 8, .inl ga_sugar))] := hD
  generalize (upd ga_salt ((nI a0) : Int32).toNatClampNeg 0) = f2 at hP hD
  refine lv_aload_n hx hb dX2_clearStep_13 rfl (lv_at hl 1 rfl) ?_
  refine va_get (D := D) (ci := 2) (v := .ref (ga 17)) (C := RX2) (T := TX2) (N := 13) hx hb hts is_clearStep_X2 hown hK hP 0 rfl rfl 1 (by decide) (hts (.fieldLink RX2 15 "SaltStreet$Ground" "sugar" "[I") (List.mem_of_getElem? (i := 4) rfl)) (fun _ h9 => h9) rfl dX2_clearStep_14 ?_
  refine lv_iload_n hx hb dX2_clearStep_17 rfl (lv_at hl 2 rfl) ?_
  refine lv_iconst (v := 0) hx hb dX2_clearStep_18 (by decide) ?_
  refine va_iast hx hb hK hP hD hS 2 0 (f := ga_sugar) rfl rfl (vp_in_nI (by omega) (by decide)) dX2_clearStep_19 (fun H locs hP hD hS => ?_)
  have hP : va_P D vwCl [(ga 2, .inr (2, [.ref (ga 16), .ref (ga 17), .ref (ga 18), .ref (ga 19), .ref (ga 20), .int ga_over, .int ga_day, .int ga_rained, .int ga_purse, .int ga_bought, .int ga_washed, .int ga_swept, .int ga_melted])), (ga 16, .inl (kc 0, 8, .inl f2)), (ga 17, .inl (kc 0, 8, .inl (upd ga_sugar ((nI a0) : Int32).toNatClampNeg 0)))] H := hP
  have hD : va_D A [(ga 2, .inr (2, [.ref (ga 16), .ref (ga 17), .ref (ga 18), .ref (ga 19), .ref (ga 20), .int ga_over, .int ga_day, .int ga_rained, .int ga_purse, .int ga_bought, .int ga_washed, .int ga_swept, .int ga_melted])), (ga 16, .inl (kc 0, 8, .inl f2)), (ga 17, .inl (kc 0, 8, .inl (upd ga_sugar ((nI a0) : Int32).toNatClampNeg 0)))] := hD
  generalize (upd ga_sugar ((nI a0) : Int32).toNatClampNeg 0) = f3 at hP hD
  refine lv_aload_n hx hb dX2_clearStep_20 rfl (lv_at hl 1 rfl) ?_
  refine lv_dup hx hb dX2_clearStep_21 rfl ?_
  refine va_get (D := D) (ci := 2) (v := .int ga_swept) (C := RX2) (T := TX2) (N := 13) hx hb hts is_clearStep_X2 hown hK hP 0 rfl rfl 11 (by decide) (hts (.fieldLink RX2 51 "SaltStreet$Ground" "swept" "I") (List.mem_of_getElem? (i := 8) rfl)) (fun _ h9 => h9) rfl dX2_clearStep_22 ?_
  refine lv_iload_n hx hb dX2_clearStep_25 rfl (lv_at hl 0 rfl) ?_
  refine lv_iadd hx hb dX2_clearStep_26 ?_
  refine lv_topi (fun z4 _ => ?_)
  refine va_put (D := D) (ci := 2) (v := .int z4) (ty := .int) (C := RX2) (T := TX2) (N := 13) hx hb hts is_clearStep_X2 tyX2 tyX2_ok nmX2 hown hK hP hD hS 0 rfl rfl 11 (by decide) (hts (.fieldLink RX2 51 "SaltStreet$Ground" "swept" "I") (List.mem_of_getElem? (i := 8) rfl)) (fun _ h9 => h9) rfl (by decide +kernel) rfl rfl (Nat.le_of_ble_eq_true rfl) dX2_clearStep_27 (fun H locs hP hD hS => ?_)
  have hP : va_P D vwCl [(ga 2, .inr (2, [.ref (ga 16), .ref (ga 17), .ref (ga 18), .ref (ga 19), .ref (ga 20), .int ga_over, .int ga_day, .int ga_rained, .int ga_purse, .int ga_bought, .int ga_washed, .int z4, .int ga_melted])), (ga 16, .inl (kc 0, 8, .inl f2)), (ga 17, .inl (kc 0, 8, .inl f3))] H := hP
  have hD : va_D A [(ga 2, .inr (2, [.ref (ga 16), .ref (ga 17), .ref (ga 18), .ref (ga 19), .ref (ga 20), .int ga_over, .int ga_day, .int ga_rained, .int ga_purse, .int ga_bought, .int ga_washed, .int z4, .int ga_melted])), (ga 16, .inl (kc 0, 8, .inl f2)), (ga 17, .inl (kc 0, 8, .inl f3))] := hD
  refine lv_iload_n hx hb dX2_clearStep_30 rfl (lv_at hl 0 rfl) ?_
  have hP9 := hP.sub (ws' := [(ga 2, .inr (2, [.ref (ga 16), .ref (ga 17), .ref (ga 18), .ref (ga 19), .ref (ga 20), .int ga_over, .int ga_day, .int ga_rained, .int ga_purse, .int ga_bought, .int ga_washed, .int z4, .int ga_melted])), (ga 16, .inl (kc 0, 8, .inl f2)), (ga 17, .inl (kc 0, 8, .inl f3))]) [0, 1, 2] rfl
  have hD9 := hD.sub (ws' := [(ga 2, .inr (2, [.ref (ga 16), .ref (ga 17), .ref (ga 18), .ref (ga 19), .ref (ga 20), .int ga_over, .int ga_day, .int ga_rained, .int ga_purse, .int ga_bought, .int ga_washed, .int z4, .int ga_melted])), (ga 16, .inl (kc 0, 8, .inl f2)), (ga 17, .inl (kc 0, 8, .inl f3))]) [0, 1, 2] (by decide) rfl
  exact W.iret (v := r1) hx hb hr (fun t9 ht hW => ⟨⟨r1, (), rfl, trivial, z4, f2, f3, by rw [ht]; exact hP9, hD9⟩, hS.F ht⟩) hS.2.2 dX2_clearStep_31
theorem dX2_carry_0 : decode cX2_carry 0 = .ok (.iload_n 3, 1) := by decide +kernel
theorem dX2_carry_1 : decode cX2_carry 1 = .ok (.aload_n 0, 1) := by decide +kernel
theorem dX2_carry_2 : decode cX2_carry 2 = .ok (.getfield 9, 3) := by decide +kernel
theorem dX2_carry_5 : decode cX2_carry 5 = .ok (.iload_n 1, 1) := by decide +kernel
theorem dX2_carry_6 : decode cX2_carry 6 = .ok (.iaload, 1) := by decide +kernel
theorem dX2_carry_7 : decode cX2_carry 7 = .ok (.invokestatic 84, 3) := by decide +kernel
theorem dX2_carry_10 : decode cX2_carry 10 = .ok (.istore 4, 2) := by decide +kernel
theorem dX2_carry_12 : decode cX2_carry 12 = .ok (.iload_n 3, 1) := by decide +kernel
theorem dX2_carry_13 : decode cX2_carry 13 = .ok (.iload 4, 2) := by decide +kernel
theorem dX2_carry_15 : decode cX2_carry 15 = .ok (.isub, 1) := by decide +kernel
theorem dX2_carry_16 : decode cX2_carry 16 = .ok (.aload_n 0, 1) := by decide +kernel
theorem dX2_carry_17 : decode cX2_carry 17 = .ok (.getfield 15, 3) := by decide +kernel
theorem dX2_carry_20 : decode cX2_carry 20 = .ok (.iload_n 1, 1) := by decide +kernel
theorem dX2_carry_21 : decode cX2_carry 21 = .ok (.iaload, 1) := by decide +kernel
theorem dX2_carry_22 : decode cX2_carry 22 = .ok (.invokestatic 84, 3) := by decide +kernel
theorem dX2_carry_25 : decode cX2_carry 25 = .ok (.istore 5, 2) := by decide +kernel
theorem dX2_carry_27 : decode cX2_carry 27 = .ok (.aload_n 0, 1) := by decide +kernel
theorem dX2_carry_28 : decode cX2_carry 28 = .ok (.getfield 9, 3) := by decide +kernel
theorem dX2_carry_31 : decode cX2_carry 31 = .ok (.iload_n 1, 1) := by decide +kernel
theorem dX2_carry_32 : decode cX2_carry 32 = .ok (.dup2, 1) := by decide +kernel
theorem dX2_carry_33 : decode cX2_carry 33 = .ok (.iaload, 1) := by decide +kernel
theorem dX2_carry_34 : decode cX2_carry 34 = .ok (.iload 4, 2) := by decide +kernel
theorem dX2_carry_36 : decode cX2_carry 36 = .ok (.isub, 1) := by decide +kernel
theorem dX2_carry_37 : decode cX2_carry 37 = .ok (.iastore, 1) := by decide +kernel
theorem dX2_carry_38 : decode cX2_carry 38 = .ok (.aload_n 0, 1) := by decide +kernel
theorem dX2_carry_39 : decode cX2_carry 39 = .ok (.getfield 15, 3) := by decide +kernel
theorem dX2_carry_42 : decode cX2_carry 42 = .ok (.iload_n 1, 1) := by decide +kernel
theorem dX2_carry_43 : decode cX2_carry 43 = .ok (.dup2, 1) := by decide +kernel
theorem dX2_carry_44 : decode cX2_carry 44 = .ok (.iaload, 1) := by decide +kernel
theorem dX2_carry_45 : decode cX2_carry 45 = .ok (.iload 5, 2) := by decide +kernel
theorem dX2_carry_47 : decode cX2_carry 47 = .ok (.isub, 1) := by decide +kernel
theorem dX2_carry_48 : decode cX2_carry 48 = .ok (.iastore, 1) := by decide +kernel
theorem dX2_carry_49 : decode cX2_carry 49 = .ok (.aload_n 0, 1) := by decide +kernel
theorem dX2_carry_50 : decode cX2_carry 50 = .ok (.getfield 9, 3) := by decide +kernel
theorem dX2_carry_53 : decode cX2_carry 53 = .ok (.iload_n 2, 1) := by decide +kernel
theorem dX2_carry_54 : decode cX2_carry 54 = .ok (.dup2, 1) := by decide +kernel
theorem dX2_carry_55 : decode cX2_carry 55 = .ok (.iaload, 1) := by decide +kernel
theorem dX2_carry_56 : decode cX2_carry 56 = .ok (.iload 4, 2) := by decide +kernel
theorem dX2_carry_58 : decode cX2_carry 58 = .ok (.iadd, 1) := by decide +kernel
theorem dX2_carry_59 : decode cX2_carry 59 = .ok (.iastore, 1) := by decide +kernel
theorem dX2_carry_60 : decode cX2_carry 60 = .ok (.aload_n 0, 1) := by decide +kernel
theorem dX2_carry_61 : decode cX2_carry 61 = .ok (.getfield 15, 3) := by decide +kernel
theorem dX2_carry_64 : decode cX2_carry 64 = .ok (.iload_n 2, 1) := by decide +kernel
theorem dX2_carry_65 : decode cX2_carry 65 = .ok (.dup2, 1) := by decide +kernel
theorem dX2_carry_66 : decode cX2_carry 66 = .ok (.iaload, 1) := by decide +kernel
theorem dX2_carry_67 : decode cX2_carry 67 = .ok (.iload 5, 2) := by decide +kernel
theorem dX2_carry_69 : decode cX2_carry 69 = .ok (.iadd, 1) := by decide +kernel
theorem dX2_carry_70 : decode cX2_carry 70 = .ok (.iastore, 1) := by decide +kernel
theorem dX2_carry_71 : decode cX2_carry 71 = .ok (.iload 4, 2) := by decide +kernel
theorem dX2_carry_73 : decode cX2_carry 73 = .ok (.ireturn, 1) := by decide +kernel
def vds_carry : List Cond := [.code yX2_carry cX2_carry 6 (some .int), .fieldLink RX2 9 "SaltStreet$Ground" "salt" "[I", .methodLink RX2 84 Lib.Math.min.name, .static Lib.Math.min.name, .initialized "java/lang/Math", .code Lib.Math.min.name Lib.Math.min.code 2 (some .int), .fieldLink RX2 15 "SaltStreet$Ground" "sugar" "[I"]
def vs_carry : List Cond := vds_carry ++ (wsX20 ++ ([] : List Cond))
theorem is_carry_X2 : ∀ w ∈ wsX20, w ∈ vs_carry := fun _ h => List.mem_append_right _ (List.mem_append_left _ h)
set_option maxHeartbeats 4000000 in
set_option maxRecDepth 100000 in
theorem s_carry (l : Launch) (D : va_G) (kc : Nat → ClassId) (sz : Nat) (ga : Nat → Nat) (ga_over : Int32) (ga_day : Int32) (ga_rained : Int32) (ga_purse : Int32) (ga_bought : Int32) (ga_washed : Int32) (ga_swept : Int32) (ga_melted : Int32) (ga_salt : Nat → Int32) (ga_sugar : Nat → Int32) (a0 : Nat) (a1 : Nat) (a2 : Int32) (h_ga_rained : ga_rained = 0 ∨ ga_rained = 1) (h_a0 : a0 ≤ 7) (h_a1 : a1 ≤ 7) : Met l yX2_carry vs_carry ({ frames := 1, cells := 0, slots := 0, locals := 13 }) (va_Pc [.ref (ga 2), .int (nI a0), .int (nI a1), .int a2] (wPre D kc [(ga 2, .inr (2, [.ref (ga 16), .ref (ga 17), .ref (ga 18), .ref (ga 19), .ref (ga 20), .int ga_over, .int ga_day, .int ga_rained, .int ga_purse, .int ga_bought, .int ga_washed, .int ga_swept, .int ga_melted])), (ga 16, .inl (kc 0, 8, .inl ga_salt)), (ga 17, .inl (kc 0, 8, .inl ga_sugar))] sz)) (va_Qi (fun (r : Int32) (_ : Unit) => True) (fun (_ : Unit) (t9 : State) => ∃ ga_salt_n : Nat → Int32, ∃ ga_sugar_n : Nat → Int32, va_P D vwCl [(ga 2, .inr (2, [.ref (ga 16), .ref (ga 17), .ref (ga 18), .ref (ga 19), .ref (ga 20), .int ga_over, .int ga_day, .int ga_rained, .int ga_purse, .int ga_bought, .int ga_washed, .int ga_swept, .int ga_melted])), (ga 16, .inl (kc 0, 8, .inl ga_salt_n)), (ga 17, .inl (kc 0, 8, .inl ga_sugar_n))] t9.heap ∧ va_D (va_A [(ga 2, .inr (2, [.ref (ga 16), .ref (ga 17), .ref (ga 18), .ref (ga 19), .ref (ga 20), .int ga_over, .int ga_day, .int ga_rained, .int ga_purse, .int ga_bought, .int ga_washed, .int ga_swept, .int ga_melted])), (ga 16, .inl (kc 0, 8, .inl ga_salt)), (ga 17, .inl (kc 0, 8, .inl ga_sugar))] sz) [(ga 2, .inr (2, [.ref (ga 16), .ref (ga 17), .ref (ga 18), .ref (ga 19), .ref (ga 20), .int ga_over, .int ga_day, .int ga_rained, .int ga_purse, .int ga_bought, .int ga_washed, .int ga_swept, .int ga_melted])), (ga 16, .inl (kc 0, 8, .inl ga_salt_n)), (ga 17, .inl (kc 0, 8, .inl ga_sugar_n))]) (va_A [(ga 2, .inr (2, [.ref (ga 16), .ref (ga 17), .ref (ga 18), .ref (ga 19), .ref (ga 20), .int ga_over, .int ga_day, .int ga_rained, .int ga_purse, .int ga_bought, .int ga_washed, .int ga_swept, .int ga_melted])), (ga 16, .inl (kc 0, 8, .inl ga_salt)), (ga 17, .inl (kc 0, 8, .inl ga_sugar))] sz)) 0 0 (va_A [(ga 2, .inr (2, [.ref (ga 16), .ref (ga 17), .ref (ga 18), .ref (ga 19), .ref (ga 20), .int ga_over, .int ga_day, .int ga_rained, .int ga_purse, .int ga_bought, .int ga_washed, .int ga_swept, .int ga_melted])), (ga 16, .inl (kc 0, 8, .inl ga_salt)), (ga 17, .inl (kc 0, 8, .inl ga_sugar))] sz) := by
  refine Met.ofW (cc := cX2_carry) (maxL := 6) (ret := (some .int)) (by decide) rfl ?_
  intro p e s m args below meth c s₁ B hml hv
  obtain ⟨rfl, hsz, hP, hE, hD0⟩ := hv
  have hx := B.exec
  have hb := B.bytes
  have hr := B.returns
  have hts := atoms_spec (ws := vs_carry) B.pre
  have hown : s.vm.findClass RX2 = some m.cls := findClass_of_methodNamed B.named
  have hlocks := B.notSynchronized
  subst hsz
  have hD := hD0.self (sz := s.heap.size)
  generalize hAe : va_A [(ga 2, .inr (2, [.ref (ga 16), .ref (ga 17), .ref (ga 18), .ref (ga 19), .ref (ga 20), .int ga_over, .int ga_day, .int ga_rained, .int ga_purse, .int ga_bought, .int ga_washed, .int ga_swept, .int ga_melted])), (ga 16, .inl (kc 0, 8, .inl ga_salt)), (ga 17, .inl (kc 0, 8, .inl ga_sugar))] s.heap.size = A at hD ⊢
  have hA : ∀ q : Nat, s.heap.size ≤ q → A q := fun q h => by rw [← hAe]; exact Or.inr h
  have hS : va_S A s.heap s.heap [] := va_S.rf
  have hK := hE.1
  have hP : va_P D vwCl [(ga 2, .inr (2, [.ref (ga 16), .ref (ga 17), .ref (ga 18), .ref (ga 19), .ref (ga 20), .int ga_over, .int ga_day, .int ga_rained, .int ga_purse, .int ga_bought, .int ga_washed, .int ga_swept, .int ga_melted])), (ga 16, .inl (kc 0, 8, .inl ga_salt)), (ga 17, .inl (kc 0, 8, .inl ga_sugar))] s.heap := hP
  have hl := lv_entry ([.ref (ga 2), .int (nI a0), .int (nI a1), .int a2]) (n := 6) (Nat.le_of_ble_eq_true rfl)
  rw [lg_entry_eq]
  generalize (lg_sl ([.ref (ga 2), .int (nI a0), .int (nI a1), .int a2]) ++ List.replicate (6 - (lg_sl ([.ref (ga 2), .int (nI a0), .int (nI a1), .int a2])).length) Slot.unset).toArray = ls at hl ⊢
  have hl : lv_has ls 6 [(0, .ref (ga 2)), (1, .int (nI a0)), (2, .int (nI a1)), (3, .int a2)] := hl
  refine lv_iload_n hx hb dX2_carry_0 rfl (lv_at hl 3 rfl) ?_
  refine lv_aload_n hx hb dX2_carry_1 rfl (lv_at hl 0 rfl) ?_
  refine va_get (D := D) (ci := 2) (v := .ref (ga 16)) (C := RX2) (T := TX2) (N := 13) hx hb hts is_carry_X2 hown hK hP 0 rfl rfl 0 (by decide) (hts (.fieldLink RX2 9 "SaltStreet$Ground" "salt" "[I") (List.mem_of_getElem? (i := 1) rfl)) (fun _ h9 => h9) rfl dX2_carry_2 ?_
  refine lv_iload_n hx hb dX2_carry_5 rfl (lv_at hl 1 rfl) ?_
  refine va_iald hx hb hK hP 1 0 (f := ga_salt) rfl rfl (vp_in_nI (by omega) (by decide)) dX2_carry_6 ?_
  refine lv_topi (fun z1 _ => ?_)
  refine va_mmin hx hb (by rw [hml, hl.1]) hown (hts (.methodLink RX2 84 Lib.Math.min.name) (List.mem_of_getElem? (i := 2) rfl)) (hts (.static Lib.Math.min.name) (List.mem_of_getElem? (i := 3) rfl)) (hts (.initialized "java/lang/Math") (List.mem_of_getElem? (i := 4) rfl)) (hts (.code Lib.Math.min.name Lib.Math.min.code 2 (some .int)) (List.mem_of_getElem? (i := 5) rfl)) (Nat.le_of_ble_eq_true rfl) (Nat.le_of_ble_eq_true rfl) (Nat.le_of_ble_eq_true rfl) (Nat.le_of_ble_eq_true rfl) dX2_carry_7 ?_
  refine lv_topi (fun z2 _ => ?_)
  refine lv_istore (lv' := [(4, .int z2), (0, .ref (ga 2)), (1, .int (nI a0)), (2, .int (nI a1)), (3, .int a2)]) hx hb dX2_carry_10 hl (by decide) rfl (fun ls hl => ?_)
  refine lv_iload_n hx hb dX2_carry_12 rfl (lv_at hl 4 rfl) ?_
  refine lv_iload hx hb dX2_carry_13 (lv_at hl 0 rfl) ?_
  refine lv_isub hx hb dX2_carry_15 ?_
  refine lv_topi (fun z3 _ => ?_)
  refine lv_aload_n hx hb dX2_carry_16 rfl (lv_at hl 1 rfl) ?_
  refine va_get (D := D) (ci := 2) (v := .ref (ga 17)) (C := RX2) (T := TX2) (N := 13) hx hb hts is_carry_X2 hown hK hP 0 rfl rfl 1 (by decide) (hts (.fieldLink RX2 15 "SaltStreet$Ground" "sugar" "[I") (List.mem_of_getElem? (i := 6) rfl)) (fun _ h9 => h9) rfl dX2_carry_17 ?_
  refine lv_iload_n hx hb dX2_carry_20 rfl (lv_at hl 2 rfl) ?_
  refine va_iald hx hb hK hP 2 0 (f := ga_sugar) rfl rfl (vp_in_nI (by omega) (by decide)) dX2_carry_21 ?_
  refine lv_topi (fun z4 _ => ?_)
  refine va_mmin hx hb (by rw [hml, hl.1]) hown (hts (.methodLink RX2 84 Lib.Math.min.name) (List.mem_of_getElem? (i := 2) rfl)) (hts (.static Lib.Math.min.name) (List.mem_of_getElem? (i := 3) rfl)) (hts (.initialized "java/lang/Math") (List.mem_of_getElem? (i := 4) rfl)) (hts (.code Lib.Math.min.name Lib.Math.min.code 2 (some .int)) (List.mem_of_getElem? (i := 5) rfl)) (Nat.le_of_ble_eq_true rfl) (Nat.le_of_ble_eq_true rfl) (Nat.le_of_ble_eq_true rfl) (Nat.le_of_ble_eq_true rfl) dX2_carry_22 ?_
  refine lv_topi (fun z5 _ => ?_)
  refine lv_istore (lv' := [(5, .int z5), (4, .int z2), (0, .ref (ga 2)), (1, .int (nI a0)), (2, .int (nI a1)), (3, .int a2)]) hx hb dX2_carry_25 hl (by decide) rfl (fun ls hl => ?_)
  refine lv_aload_n hx hb dX2_carry_27 rfl (lv_at hl 2 rfl) ?_
  refine va_get (D := D) (ci := 2) (v := .ref (ga 16)) (C := RX2) (T := TX2) (N := 13) hx hb hts is_carry_X2 hown hK hP 0 rfl rfl 0 (by decide) (hts (.fieldLink RX2 9 "SaltStreet$Ground" "salt" "[I") (List.mem_of_getElem? (i := 1) rfl)) (fun _ h9 => h9) rfl dX2_carry_28 ?_
  refine lv_iload_n hx hb dX2_carry_31 rfl (lv_at hl 3 rfl) ?_
  refine lv_dup2_11 hx hb dX2_carry_32 rfl rfl ?_
  refine va_iald hx hb hK hP 1 0 (f := ga_salt) rfl rfl (vp_in_nI (by omega) (by decide)) dX2_carry_33 ?_
  refine lv_topi (fun z6 _ => ?_)
  refine lv_iload hx hb dX2_carry_34 (lv_at hl 1 rfl) ?_
  refine lv_isub hx hb dX2_carry_36 ?_
  refine lv_topi (fun z7 _ => ?_)
  refine va_iast hx hb hK hP hD hS 1 0 (f := ga_salt) rfl rfl (vp_in_nI (by omega) (by decide)) dX2_carry_37 (fun H locs hP hD hS => ?_)
  have hP : va_P D vwCl [(ga 2, .inr (2, [.ref (ga 16), .ref (ga 17), .ref (ga 18), .ref (ga 19), .ref (ga 20), .int ga_over, .int ga_day, .int ga_rained, .int ga_purse, .int ga_bought, .int ga_washed, .int ga_swept, .int ga_melted])), (ga 16, .inl (kc 0, 8, .inl (upd ga_salt ((nI a0) : Int32).toNatClampNeg z7))), (ga 17, .inl (kc 0, 8, .inl ga_sugar))] H := hP
  have hD : va_D A [(ga 2, .inr (2, [.ref (ga 16), .ref (ga 17), .ref (ga 18), .ref (ga 19), .ref (ga 20), .int ga_over, .int ga_day, .int ga_rained, .int ga_purse, .int ga_bought, .int ga_washed, .int ga_swept, .int ga_melted])), (ga 16, .inl (kc 0, 8, .inl (upd ga_salt ((nI a0) : Int32).toNatClampNeg z7))), (ga 17, .inl (kc 0, 8, .inl ga_sugar))] := hD
  generalize (upd ga_salt ((nI a0) : Int32).toNatClampNeg z7) = f8 at hP hD
  refine lv_aload_n hx hb dX2_carry_38 rfl (lv_at hl 2 rfl) ?_
  refine va_get (D := D) (ci := 2) (v := .ref (ga 17)) (C := RX2) (T := TX2) (N := 13) hx hb hts is_carry_X2 hown hK hP 0 rfl rfl 1 (by decide) (hts (.fieldLink RX2 15 "SaltStreet$Ground" "sugar" "[I") (List.mem_of_getElem? (i := 6) rfl)) (fun _ h9 => h9) rfl dX2_carry_39 ?_
  refine lv_iload_n hx hb dX2_carry_42 rfl (lv_at hl 3 rfl) ?_
  refine lv_dup2_11 hx hb dX2_carry_43 rfl rfl ?_
  refine va_iald hx hb hK hP 2 0 (f := ga_sugar) rfl rfl (vp_in_nI (by omega) (by decide)) dX2_carry_44 ?_
  refine lv_topi (fun z9 _ => ?_)
  refine lv_iload hx hb dX2_carry_45 (lv_at hl 0 rfl) ?_
  refine lv_isub hx hb dX2_carry_47 ?_
  refine lv_topi (fun z10 _ => ?_)
  refine va_iast hx hb hK hP hD hS 2 0 (f := ga_sugar) rfl rfl (vp_in_nI (by omega) (by decide)) dX2_carry_48 (fun H locs hP hD hS => ?_)
  have hP : va_P D vwCl [(ga 2, .inr (2, [.ref (ga 16), .ref (ga 17), .ref (ga 18), .ref (ga 19), .ref (ga 20), .int ga_over, .int ga_day, .int ga_rained, .int ga_purse, .int ga_bought, .int ga_washed, .int ga_swept, .int ga_melted])), (ga 16, .inl (kc 0, 8, .inl f8)), (ga 17, .inl (kc 0, 8, .inl (upd ga_sugar ((nI a0) : Int32).toNatClampNeg z10)))] H := hP
  have hD : va_D A [(ga 2, .inr (2, [.ref (ga 16), .ref (ga 17), .ref (ga 18), .ref (ga 19), .ref (ga 20), .int ga_over, .int ga_day, .int ga_rained, .int ga_purse, .int ga_bought, .int ga_washed, .int ga_swept, .int ga_melted])), (ga 16, .inl (kc 0, 8, .inl f8)), (ga 17, .inl (kc 0, 8, .inl (upd ga_sugar ((nI a0) : Int32).toNatClampNeg z10)))] := hD
  generalize (upd ga_sugar ((nI a0) : Int32).toNatClampNeg z10) = f11 at hP hD
  refine lv_aload_n hx hb dX2_carry_49 rfl (lv_at hl 2 rfl) ?_
  refine va_get (D := D) (ci := 2) (v := .ref (ga 16)) (C := RX2) (T := TX2) (N := 13) hx hb hts is_carry_X2 hown hK hP 0 rfl rfl 0 (by decide) (hts (.fieldLink RX2 9 "SaltStreet$Ground" "salt" "[I") (List.mem_of_getElem? (i := 1) rfl)) (fun _ h9 => h9) rfl dX2_carry_50 ?_
  refine lv_iload_n hx hb dX2_carry_53 rfl (lv_at hl 4 rfl) ?_
  refine lv_dup2_11 hx hb dX2_carry_54 rfl rfl ?_
  refine va_iald hx hb hK hP 1 0 (f := f8) rfl rfl (vp_in_nI (by omega) (by decide)) dX2_carry_55 ?_
  refine lv_topi (fun z12 _ => ?_)
  refine lv_iload hx hb dX2_carry_56 (lv_at hl 1 rfl) ?_
  refine lv_iadd hx hb dX2_carry_58 ?_
  refine lv_topi (fun z13 _ => ?_)
  refine va_iast hx hb hK hP hD hS 1 0 (f := f8) rfl rfl (vp_in_nI (by omega) (by decide)) dX2_carry_59 (fun H locs hP hD hS => ?_)
  have hP : va_P D vwCl [(ga 2, .inr (2, [.ref (ga 16), .ref (ga 17), .ref (ga 18), .ref (ga 19), .ref (ga 20), .int ga_over, .int ga_day, .int ga_rained, .int ga_purse, .int ga_bought, .int ga_washed, .int ga_swept, .int ga_melted])), (ga 16, .inl (kc 0, 8, .inl (upd f8 ((nI a1) : Int32).toNatClampNeg z13))), (ga 17, .inl (kc 0, 8, .inl f11))] H := hP
  have hD : va_D A [(ga 2, .inr (2, [.ref (ga 16), .ref (ga 17), .ref (ga 18), .ref (ga 19), .ref (ga 20), .int ga_over, .int ga_day, .int ga_rained, .int ga_purse, .int ga_bought, .int ga_washed, .int ga_swept, .int ga_melted])), (ga 16, .inl (kc 0, 8, .inl (upd f8 ((nI a1) : Int32).toNatClampNeg z13))), (ga 17, .inl (kc 0, 8, .inl f11))] := hD
  generalize (upd f8 ((nI a1) : Int32).toNatClampNeg z13) = f14 at hP hD
  refine lv_aload_n hx hb dX2_carry_60 rfl (lv_at hl 2 rfl) ?_
  refine va_get (D := D) (ci := 2) (v := .ref (ga 17)) (C := RX2) (T := TX2) (N := 13) hx hb hts is_carry_X2 hown hK hP 0 rfl rfl 1 (by decide) (hts (.fieldLink RX2 15 "SaltStreet$Ground" "sugar" "[I") (List.mem_of_getElem? (i := 6) rfl)) (fun _ h9 => h9) rfl dX2_carry_61 ?_
  refine lv_iload_n hx hb dX2_carry_64 rfl (lv_at hl 4 rfl) ?_
  refine lv_dup2_11 hx hb dX2_carry_65 rfl rfl ?_
  refine va_iald hx hb hK hP 2 0 (f := f11) rfl rfl (vp_in_nI (by omega) (by decide)) dX2_carry_66 ?_
  refine lv_topi (fun z15 _ => ?_)
  refine lv_iload hx hb dX2_carry_67 (lv_at hl 0 rfl) ?_
  refine lv_iadd hx hb dX2_carry_69 ?_
  refine lv_topi (fun z16 _ => ?_)
  refine va_iast hx hb hK hP hD hS 2 0 (f := f11) rfl rfl (vp_in_nI (by omega) (by decide)) dX2_carry_70 (fun H locs hP hD hS => ?_)
  have hP : va_P D vwCl [(ga 2, .inr (2, [.ref (ga 16), .ref (ga 17), .ref (ga 18), .ref (ga 19), .ref (ga 20), .int ga_over, .int ga_day, .int ga_rained, .int ga_purse, .int ga_bought, .int ga_washed, .int ga_swept, .int ga_melted])), (ga 16, .inl (kc 0, 8, .inl f14)), (ga 17, .inl (kc 0, 8, .inl (upd f11 ((nI a1) : Int32).toNatClampNeg z16)))] H := hP
  have hD : va_D A [(ga 2, .inr (2, [.ref (ga 16), .ref (ga 17), .ref (ga 18), .ref (ga 19), .ref (ga 20), .int ga_over, .int ga_day, .int ga_rained, .int ga_purse, .int ga_bought, .int ga_washed, .int ga_swept, .int ga_melted])), (ga 16, .inl (kc 0, 8, .inl f14)), (ga 17, .inl (kc 0, 8, .inl (upd f11 ((nI a1) : Int32).toNatClampNeg z16)))] := hD
  generalize (upd f11 ((nI a1) : Int32).toNatClampNeg z16) = f17 at hP hD
  refine lv_iload hx hb dX2_carry_71 (lv_at hl 1 rfl) ?_
  have hP9 := hP.sub (ws' := [(ga 2, .inr (2, [.ref (ga 16), .ref (ga 17), .ref (ga 18), .ref (ga 19), .ref (ga 20), .int ga_over, .int ga_day, .int ga_rained, .int ga_purse, .int ga_bought, .int ga_washed, .int ga_swept, .int ga_melted])), (ga 16, .inl (kc 0, 8, .inl f14)), (ga 17, .inl (kc 0, 8, .inl f17))]) [0, 1, 2] rfl
  have hD9 := hD.sub (ws' := [(ga 2, .inr (2, [.ref (ga 16), .ref (ga 17), .ref (ga 18), .ref (ga 19), .ref (ga 20), .int ga_over, .int ga_day, .int ga_rained, .int ga_purse, .int ga_bought, .int ga_washed, .int ga_swept, .int ga_melted])), (ga 16, .inl (kc 0, 8, .inl f14)), (ga 17, .inl (kc 0, 8, .inl f17))]) [0, 1, 2] (by decide) rfl
  exact W.iret (v := z2) hx hb hr (fun t9 ht hW => ⟨⟨z2, (), rfl, trivial, f14, f17, by rw [ht]; exact hP9, hD9⟩, hS.F ht⟩) hS.2.2 dX2_carry_73
theorem dX2_letRain_0 : decode cX2_letRain 0 = .ok (.iconst 0, 1) := by decide +kernel
theorem dX2_letRain_1 : decode cX2_letRain 1 = .ok (.istore_n 2, 1) := by decide +kernel
theorem dX2_letRain_2 : decode cX2_letRain 2 = .ok (.iconst 0, 1) := by decide +kernel
theorem dX2_letRain_3 : decode cX2_letRain 3 = .ok (.istore_n 3, 1) := by decide +kernel
theorem dX2_letRain_4 : decode cX2_letRain 4 = .ok (.iload_n 3, 1) := by decide +kernel
theorem dX2_letRain_5 : decode cX2_letRain 5 = .ok (.aload_n 1, 1) := by decide +kernel
theorem dX2_letRain_6 : decode cX2_letRain 6 = .ok (.getfield 65, 3) := by decide +kernel
theorem dX2_letRain_9 : decode cX2_letRain 9 = .ok (.if_icmp .ge 54, 3) := by decide +kernel
theorem dX2_letRain_63 : decode cX2_letRain 63 = .ok (.aload_n 0, 1) := by decide +kernel
theorem dX2_letRain_64 : decode cX2_letRain 64 = .ok (.dup, 1) := by decide +kernel
theorem dX2_letRain_65 : decode cX2_letRain 65 = .ok (.getfield 48, 3) := by decide +kernel
theorem dX2_letRain_68 : decode cX2_letRain 68 = .ok (.iload_n 2, 1) := by decide +kernel
theorem dX2_letRain_69 : decode cX2_letRain 69 = .ok (.iadd, 1) := by decide +kernel
theorem dX2_letRain_70 : decode cX2_letRain 70 = .ok (.putfield 48, 3) := by decide +kernel
theorem dX2_letRain_73 : decode cX2_letRain 73 = .ok (.aload_n 0, 1) := by decide +kernel
theorem dX2_letRain_74 : decode cX2_letRain 74 = .ok (.iconst 1, 1) := by decide +kernel
theorem dX2_letRain_75 : decode cX2_letRain 75 = .ok (.putfield 38, 3) := by decide +kernel
theorem dX2_letRain_78 : decode cX2_letRain 78 = .ok (.iload_n 2, 1) := by decide +kernel
theorem dX2_letRain_79 : decode cX2_letRain 79 = .ok (.ireturn, 1) := by decide +kernel
theorem dX2_letRain_12 : decode cX2_letRain 12 = .ok (.aload_n 1, 1) := by decide +kernel
theorem dX2_letRain_13 : decode cX2_letRain 13 = .ok (.getfield 90, 3) := by decide +kernel
theorem dX2_letRain_16 : decode cX2_letRain 16 = .ok (.aload_n 0, 1) := by decide +kernel
theorem dX2_letRain_17 : decode cX2_letRain 17 = .ok (.getfield 9, 3) := by decide +kernel
theorem dX2_letRain_20 : decode cX2_letRain 20 = .ok (.iload_n 3, 1) := by decide +kernel
theorem dX2_letRain_21 : decode cX2_letRain 21 = .ok (.iaload, 1) := by decide +kernel
theorem dX2_letRain_22 : decode cX2_letRain 22 = .ok (.invokestatic 84, 3) := by decide +kernel
theorem dX2_letRain_25 : decode cX2_letRain 25 = .ok (.istore 4, 2) := by decide +kernel
theorem dX2_letRain_27 : decode cX2_letRain 27 = .ok (.iload_n 2, 1) := by decide +kernel
theorem dX2_letRain_28 : decode cX2_letRain 28 = .ok (.aload_n 0, 1) := by decide +kernel
theorem dX2_letRain_29 : decode cX2_letRain 29 = .ok (.getfield 15, 3) := by decide +kernel
theorem dX2_letRain_32 : decode cX2_letRain 32 = .ok (.iload_n 3, 1) := by decide +kernel
theorem dX2_letRain_33 : decode cX2_letRain 33 = .ok (.iaload, 1) := by decide +kernel
theorem dX2_letRain_34 : decode cX2_letRain 34 = .ok (.iload 4, 2) := by decide +kernel
theorem dX2_letRain_36 : decode cX2_letRain 36 = .ok (.iadd, 1) := by decide +kernel
theorem dX2_letRain_37 : decode cX2_letRain 37 = .ok (.iadd, 1) := by decide +kernel
theorem dX2_letRain_38 : decode cX2_letRain 38 = .ok (.istore_n 2, 1) := by decide +kernel
theorem dX2_letRain_39 : decode cX2_letRain 39 = .ok (.aload_n 0, 1) := by decide +kernel
theorem dX2_letRain_40 : decode cX2_letRain 40 = .ok (.getfield 15, 3) := by decide +kernel
theorem dX2_letRain_43 : decode cX2_letRain 43 = .ok (.iload_n 3, 1) := by decide +kernel
theorem dX2_letRain_44 : decode cX2_letRain 44 = .ok (.iconst 0, 1) := by decide +kernel
theorem dX2_letRain_45 : decode cX2_letRain 45 = .ok (.iastore, 1) := by decide +kernel
theorem dX2_letRain_46 : decode cX2_letRain 46 = .ok (.aload_n 0, 1) := by decide +kernel
theorem dX2_letRain_47 : decode cX2_letRain 47 = .ok (.getfield 9, 3) := by decide +kernel
theorem dX2_letRain_50 : decode cX2_letRain 50 = .ok (.iload_n 3, 1) := by decide +kernel
theorem dX2_letRain_51 : decode cX2_letRain 51 = .ok (.dup2, 1) := by decide +kernel
theorem dX2_letRain_52 : decode cX2_letRain 52 = .ok (.iaload, 1) := by decide +kernel
theorem dX2_letRain_53 : decode cX2_letRain 53 = .ok (.iload 4, 2) := by decide +kernel
theorem dX2_letRain_55 : decode cX2_letRain 55 = .ok (.isub, 1) := by decide +kernel
theorem dX2_letRain_56 : decode cX2_letRain 56 = .ok (.iastore, 1) := by decide +kernel
theorem dX2_letRain_57 : decode cX2_letRain 57 = .ok (.iinc 3 1, 3) := by decide +kernel
theorem dX2_letRain_60 : decode cX2_letRain 60 = .ok (.goto (-56), 3) := by decide +kernel
def vds_letRain : List Cond := [.code yX2_letRain cX2_letRain 5 (some .int), .fieldLink RX2 48 "SaltStreet$Ground" "washed" "I", .fieldLink RX2 38 "SaltStreet$Ground" "rained" "Z", .fieldLink RX2 9 "SaltStreet$Ground" "salt" "[I", .methodLink RX2 84 Lib.Math.min.name, .static Lib.Math.min.name, .initialized "java/lang/Math", .code Lib.Math.min.name Lib.Math.min.code 2 (some .int), .fieldLink RX2 15 "SaltStreet$Ground" "sugar" "[I"]
def vs_letRain : List Cond := vds_letRain ++ (wsX40 ++ (wsX20 ++ ([] : List Cond)))
theorem is_letRain_X4 : ∀ w ∈ wsX40, w ∈ vs_letRain := fun _ h => List.mem_append_right _ (List.mem_append_left _ h)
theorem is_letRain_X2 : ∀ w ∈ wsX20, w ∈ vs_letRain := fun _ h => List.mem_append_right _ (List.mem_append_right _ (List.mem_append_left _ h))
set_option maxHeartbeats 4000000 in
set_option maxRecDepth 100000 in
theorem s_letRain (l : Launch) (D : va_G) (kc : Nat → ClassId) (sz : Nat) (na : Nat → Nat) (ga : Nat → Nat) (na_named : Nat) (na_houses : Nat) (na_quarrels : Nat) (na_cats : Nat) (na_grocers : Nat) (na_gone : Int32) (na_washes : Int32) (na_goneCounts : Int32) (ga_over : Int32) (ga_day : Int32) (ga_rained : Int32) (ga_purse : Int32) (ga_bought : Int32) (ga_washed : Int32) (ga_swept : Int32) (ga_melted : Int32) (ga_salt : Nat → Int32) (ga_sugar : Nat → Int32) (h_na_named : na_named ≤ 24) (h_na_houses : na_houses ≤ 8) (h_na_quarrels : na_quarrels ≤ 8) (h_na_cats : na_cats ≤ 4) (h_na_grocers : na_grocers ≤ 4) (h_na_goneCounts : na_goneCounts = 0 ∨ na_goneCounts = 1) (h_ga_rained : ga_rained = 0 ∨ ga_rained = 1) : Met l yX2_letRain vs_letRain ({ frames := 1, cells := 0, slots := 0, locals := 13 }) (va_Pc [.ref (ga 2), .ref (na 1)] (wPre D kc [(na 1, .inr (4, [.ref (na 4), .ref (na 5), .ref (na 6), .ref (na 7), .ref (na 8), .ref (na 9), .ref (na 10), .ref (na 11), .ref (na 12), .ref (na 13), .ref (na 14), .ref (na 15), .int (nI na_named), .int (nI na_houses), .int (nI na_quarrels), .int (nI na_cats), .int (nI na_grocers), .int na_gone, .int na_washes, .int na_goneCounts])), (ga 2, .inr (2, [.ref (ga 16), .ref (ga 17), .ref (ga 18), .ref (ga 19), .ref (ga 20), .int ga_over, .int ga_day, .int ga_rained, .int ga_purse, .int ga_bought, .int ga_washed, .int ga_swept, .int ga_melted])), (ga 16, .inl (kc 0, 8, .inl ga_salt)), (ga 17, .inl (kc 0, 8, .inl ga_sugar))] sz)) (va_Qi (fun (r : Int32) (_ : Unit) => True) (fun (_ : Unit) (t9 : State) => ∃ ga_rained_n : Int32, ∃ ga_washed_n : Int32, ∃ ga_salt_n : Nat → Int32, ∃ ga_sugar_n : Nat → Int32, (ga_rained_n = 0 ∨ ga_rained_n = 1) ∧ va_P D vwCl [(na 1, .inr (4, [.ref (na 4), .ref (na 5), .ref (na 6), .ref (na 7), .ref (na 8), .ref (na 9), .ref (na 10), .ref (na 11), .ref (na 12), .ref (na 13), .ref (na 14), .ref (na 15), .int (nI na_named), .int (nI na_houses), .int (nI na_quarrels), .int (nI na_cats), .int (nI na_grocers), .int na_gone, .int na_washes, .int na_goneCounts])), (ga 2, .inr (2, [.ref (ga 16), .ref (ga 17), .ref (ga 18), .ref (ga 19), .ref (ga 20), .int ga_over, .int ga_day, .int ga_rained_n, .int ga_purse, .int ga_bought, .int ga_washed_n, .int ga_swept, .int ga_melted])), (ga 16, .inl (kc 0, 8, .inl ga_salt_n)), (ga 17, .inl (kc 0, 8, .inl ga_sugar_n))] t9.heap ∧ va_D (va_A [(na 1, .inr (4, [.ref (na 4), .ref (na 5), .ref (na 6), .ref (na 7), .ref (na 8), .ref (na 9), .ref (na 10), .ref (na 11), .ref (na 12), .ref (na 13), .ref (na 14), .ref (na 15), .int (nI na_named), .int (nI na_houses), .int (nI na_quarrels), .int (nI na_cats), .int (nI na_grocers), .int na_gone, .int na_washes, .int na_goneCounts])), (ga 2, .inr (2, [.ref (ga 16), .ref (ga 17), .ref (ga 18), .ref (ga 19), .ref (ga 20), .int ga_over, .int ga_day, .int ga_rained, .int ga_purse, .int ga_bought, .int ga_washed, .int ga_swept, .int ga_melted])), (ga 16, .inl (kc 0, 8, .inl ga_salt)), (ga 17, .inl (kc 0, 8, .inl ga_sugar))] sz) [(na 1, .inr (4, [.ref (na 4), .ref (na 5), .ref (na 6), .ref (na 7), .ref (na 8), .ref (na 9), .ref (na 10), .ref (na 11), .ref (na 12), .ref (na 13), .ref (na 14), .ref (na 15), .int (nI na_named), .int (nI na_houses), .int (nI na_quarrels), .int (nI na_cats), .int (nI na_grocers), .int na_gone, .int na_washes, .int na_goneCounts])), (ga 2, .inr (2, [.ref (ga 16), .ref (ga 17), .ref (ga 18), .ref (ga 19), .ref (ga 20), .int ga_over, .int ga_day, .int ga_rained_n, .int ga_purse, .int ga_bought, .int ga_washed_n, .int ga_swept, .int ga_melted])), (ga 16, .inl (kc 0, 8, .inl ga_salt_n)), (ga 17, .inl (kc 0, 8, .inl ga_sugar_n))]) (va_A [(na 1, .inr (4, [.ref (na 4), .ref (na 5), .ref (na 6), .ref (na 7), .ref (na 8), .ref (na 9), .ref (na 10), .ref (na 11), .ref (na 12), .ref (na 13), .ref (na 14), .ref (na 15), .int (nI na_named), .int (nI na_houses), .int (nI na_quarrels), .int (nI na_cats), .int (nI na_grocers), .int na_gone, .int na_washes, .int na_goneCounts])), (ga 2, .inr (2, [.ref (ga 16), .ref (ga 17), .ref (ga 18), .ref (ga 19), .ref (ga 20), .int ga_over, .int ga_day, .int ga_rained, .int ga_purse, .int ga_bought, .int ga_washed, .int ga_swept, .int ga_melted])), (ga 16, .inl (kc 0, 8, .inl ga_salt)), (ga 17, .inl (kc 0, 8, .inl ga_sugar))] sz)) 0 0 (va_A [(na 1, .inr (4, [.ref (na 4), .ref (na 5), .ref (na 6), .ref (na 7), .ref (na 8), .ref (na 9), .ref (na 10), .ref (na 11), .ref (na 12), .ref (na 13), .ref (na 14), .ref (na 15), .int (nI na_named), .int (nI na_houses), .int (nI na_quarrels), .int (nI na_cats), .int (nI na_grocers), .int na_gone, .int na_washes, .int na_goneCounts])), (ga 2, .inr (2, [.ref (ga 16), .ref (ga 17), .ref (ga 18), .ref (ga 19), .ref (ga 20), .int ga_over, .int ga_day, .int ga_rained, .int ga_purse, .int ga_bought, .int ga_washed, .int ga_swept, .int ga_melted])), (ga 16, .inl (kc 0, 8, .inl ga_salt)), (ga 17, .inl (kc 0, 8, .inl ga_sugar))] sz) := by
  refine Met.ofW (cc := cX2_letRain) (maxL := 5) (ret := (some .int)) (by decide) rfl ?_
  intro p e s m args below meth c s₁ B hml hv
  obtain ⟨rfl, hsz, hP, hE, hD0⟩ := hv
  have hx := B.exec
  have hb := B.bytes
  have hr := B.returns
  have hts := atoms_spec (ws := vs_letRain) B.pre
  have hown : s.vm.findClass RX2 = some m.cls := findClass_of_methodNamed B.named
  have hlocks := B.notSynchronized
  subst hsz
  have hD := hD0.self (sz := s.heap.size)
  generalize hAe : va_A [(na 1, .inr (4, [.ref (na 4), .ref (na 5), .ref (na 6), .ref (na 7), .ref (na 8), .ref (na 9), .ref (na 10), .ref (na 11), .ref (na 12), .ref (na 13), .ref (na 14), .ref (na 15), .int (nI na_named), .int (nI na_houses), .int (nI na_quarrels), .int (nI na_cats), .int (nI na_grocers), .int na_gone, .int na_washes, .int na_goneCounts])), (ga 2, .inr (2, [.ref (ga 16), .ref (ga 17), .ref (ga 18), .ref (ga 19), .ref (ga 20), .int ga_over, .int ga_day, .int ga_rained, .int ga_purse, .int ga_bought, .int ga_washed, .int ga_swept, .int ga_melted])), (ga 16, .inl (kc 0, 8, .inl ga_salt)), (ga 17, .inl (kc 0, 8, .inl ga_sugar))] s.heap.size = A at hD ⊢
  have hA : ∀ q : Nat, s.heap.size ≤ q → A q := fun q h => by rw [← hAe]; exact Or.inr h
  have hS : va_S A s.heap s.heap [] := va_S.rf
  have hK := hE.1
  have hP : va_P D vwCl [(na 1, .inr (4, [.ref (na 4), .ref (na 5), .ref (na 6), .ref (na 7), .ref (na 8), .ref (na 9), .ref (na 10), .ref (na 11), .ref (na 12), .ref (na 13), .ref (na 14), .ref (na 15), .int (nI na_named), .int (nI na_houses), .int (nI na_quarrels), .int (nI na_cats), .int (nI na_grocers), .int na_gone, .int na_washes, .int na_goneCounts])), (ga 2, .inr (2, [.ref (ga 16), .ref (ga 17), .ref (ga 18), .ref (ga 19), .ref (ga 20), .int ga_over, .int ga_day, .int ga_rained, .int ga_purse, .int ga_bought, .int ga_washed, .int ga_swept, .int ga_melted])), (ga 16, .inl (kc 0, 8, .inl ga_salt)), (ga 17, .inl (kc 0, 8, .inl ga_sugar))] s.heap := hP
  have hl := lv_entry ([.ref (ga 2), .ref (na 1)]) (n := 5) (Nat.le_of_ble_eq_true rfl)
  rw [lg_entry_eq]
  generalize (lg_sl ([.ref (ga 2), .ref (na 1)]) ++ List.replicate (5 - (lg_sl ([.ref (ga 2), .ref (na 1)])).length) Slot.unset).toArray = ls at hl ⊢
  have hl : lv_has ls 5 [(0, .ref (ga 2)), (1, .ref (na 1))] := hl
  refine lv_iconst (v := 0) hx hb dX2_letRain_0 (by decide) ?_
  refine lv_istore_n (lv' := [(2, .int 0), (0, .ref (ga 2)), (1, .ref (na 1))]) hx hb dX2_letRain_1 rfl hl (by decide) rfl (fun ls hl => ?_)
  refine lv_iconst (v := 0) hx hb dX2_letRain_2 (by decide) ?_
  refine lv_istore_n (lv' := [(3, .int 0), (2, .int 0), (0, .ref (ga 2)), (1, .ref (na 1))]) hx hb dX2_letRain_3 rfl hl (by decide) rfl (fun ls hl => ?_)
  have loop_n9_4_32 : ∀ (n9_4_32 : Nat) (i28 : Nat) (f29 : Nat → Int32) (f30 : Nat → Int32) (z31 : Int32), i28 ≤ na_houses → na_houses < i28 + n9_4_32 → ∀ (H : Heap) (locs : List Loc) (ls : Array Slot), va_P D vwCl [(na 1, .inr (4, [.ref (na 4), .ref (na 5), .ref (na 6), .ref (na 7), .ref (na 8), .ref (na 9), .ref (na 10), .ref (na 11), .ref (na 12), .ref (na 13), .ref (na 14), .ref (na 15), .int (nI na_named), .int (nI na_houses), .int (nI na_quarrels), .int (nI na_cats), .int (nI na_grocers), .int na_gone, .int na_washes, .int na_goneCounts])), (ga 2, .inr (2, [.ref (ga 16), .ref (ga 17), .ref (ga 18), .ref (ga 19), .ref (ga 20), .int ga_over, .int ga_day, .int ga_rained, .int ga_purse, .int ga_bought, .int ga_washed, .int ga_swept, .int ga_melted])), (ga 16, .inl (kc 0, 8, .inl f29)), (ga 17, .inl (kc 0, 8, .inl f30))] H → va_D A [(na 1, .inr (4, [.ref (na 4), .ref (na 5), .ref (na 6), .ref (na 7), .ref (na 8), .ref (na 9), .ref (na 10), .ref (na 11), .ref (na 12), .ref (na 13), .ref (na 14), .ref (na 15), .int (nI na_named), .int (nI na_houses), .int (nI na_quarrels), .int (nI na_cats), .int (nI na_grocers), .int na_gone, .int na_washes, .int na_goneCounts])), (ga 2, .inr (2, [.ref (ga 16), .ref (ga 17), .ref (ga 18), .ref (ga 19), .ref (ga 20), .int ga_over, .int ga_day, .int ga_rained, .int ga_purse, .int ga_bought, .int ga_washed, .int ga_swept, .int ga_melted])), (ga 16, .inl (kc 0, 8, .inl f29)), (ga 17, .inl (kc 0, 8, .inl f30))] → va_S A s.heap H locs → lv_has ls 5 [(3, .int (nI i28)), (2, .int z31), (0, .ref (ga 2)), (1, .ref (na 1))] → W p l e (headSpec vs_letRain ({ frames := 1, cells := 0, slots := 0, locals := 13 })).room s m [.ref (ga 2), .ref (na 1)].toArray below meth c H locs 0 0 (MQ below (va_Qi (fun (r : Int32) (_ : Unit) => True) (fun (_ : Unit) (t9 : State) => ∃ ga_rained_n : Int32, ∃ ga_washed_n : Int32, ∃ ga_salt_n : Nat → Int32, ∃ ga_sugar_n : Nat → Int32, (ga_rained_n = 0 ∨ ga_rained_n = 1) ∧ va_P D vwCl [(na 1, .inr (4, [.ref (na 4), .ref (na 5), .ref (na 6), .ref (na 7), .ref (na 8), .ref (na 9), .ref (na 10), .ref (na 11), .ref (na 12), .ref (na 13), .ref (na 14), .ref (na 15), .int (nI na_named), .int (nI na_houses), .int (nI na_quarrels), .int (nI na_cats), .int (nI na_grocers), .int na_gone, .int na_washes, .int na_goneCounts])), (ga 2, .inr (2, [.ref (ga 16), .ref (ga 17), .ref (ga 18), .ref (ga 19), .ref (ga 20), .int ga_over, .int ga_day, .int ga_rained_n, .int ga_purse, .int ga_bought, .int ga_washed_n, .int ga_swept, .int ga_melted])), (ga 16, .inl (kc 0, 8, .inl ga_salt_n)), (ga 17, .inl (kc 0, 8, .inl ga_sugar_n))] t9.heap ∧ va_D A [(na 1, .inr (4, [.ref (na 4), .ref (na 5), .ref (na 6), .ref (na 7), .ref (na 8), .ref (na 9), .ref (na 10), .ref (na 11), .ref (na 12), .ref (na 13), .ref (na 14), .ref (na 15), .int (nI na_named), .int (nI na_houses), .int (nI na_quarrels), .int (nI na_cats), .int (nI na_grocers), .int na_gone, .int na_washes, .int na_goneCounts])), (ga 2, .inr (2, [.ref (ga 16), .ref (ga 17), .ref (ga 18), .ref (ga 19), .ref (ga 20), .int ga_over, .int ga_day, .int ga_rained_n, .int ga_purse, .int ga_bought, .int ga_washed_n, .int ga_swept, .int ga_melted])), (ga 16, .inl (kc 0, 8, .inl ga_salt_n)), (ga 17, .inl (kc 0, 8, .inl ga_sugar_n))]) A) [.ref (ga 2), .ref (na 1)].toArray s 0 0 A) (F0 m 4 ls []) := by
    intro n9_4_32
    induction n9_4_32 with
    | zero => intro i28 f29 f30 z31  h1 h2; exact absurd h2 (by omega)
    | succ n9_4_32 ih_n9_4_32 =>
      intro i28 f29 f30 z31  h1_n9_4_32 h2_n9_4_32 H locs ls hP hD hS hl
      refine lv_iload_n hx hb dX2_letRain_4 rfl (lv_at hl 0 rfl) ?_
      refine lv_aload_n hx hb dX2_letRain_5 rfl (lv_at hl 3 rfl) ?_
      refine va_getN (D := D) (ci := 4) (v := .int (nI na_houses)) (C := RX4) (T := TX4) (N := 20) hx hb hts is_letRain_X4 hown hK hP 0 rfl rfl 13 (by decide) (hE.nw 35 rfl) (fun _ h9 => h9) rfl dX2_letRain_6 ?_
      refine lv_icmp_ge (tgt := 63) hx hb dX2_letRain_9 (by decide) (fun c33 => ?_) (fun c33 => ?_)
      · have nc33 := (nI_leI (a := na_houses) (b := i28) (by omega) (by omega)).mp c33
        refine lv_aload_n hx hb dX2_letRain_63 rfl (lv_at hl 2 rfl) ?_
        refine lv_dup hx hb dX2_letRain_64 rfl ?_
        refine va_get (D := D) (ci := 2) (v := .int ga_washed) (C := RX2) (T := TX2) (N := 13) hx hb hts is_letRain_X2 hown hK hP 1 rfl rfl 10 (by decide) (hts (.fieldLink RX2 48 "SaltStreet$Ground" "washed" "I") (List.mem_of_getElem? (i := 1) rfl)) (fun _ h9 => h9) rfl dX2_letRain_65 ?_
        refine lv_iload_n hx hb dX2_letRain_68 rfl (lv_at hl 1 rfl) ?_
        refine lv_iadd hx hb dX2_letRain_69 ?_
        refine lv_topi (fun z34 _ => ?_)
        refine va_put (D := D) (ci := 2) (v := .int z34) (ty := .int) (C := RX2) (T := TX2) (N := 13) hx hb hts is_letRain_X2 tyX2 tyX2_ok nmX2 hown hK hP hD hS 1 rfl rfl 10 (by decide) (hts (.fieldLink RX2 48 "SaltStreet$Ground" "washed" "I") (List.mem_of_getElem? (i := 1) rfl)) (fun _ h9 => h9) rfl (by decide +kernel) rfl rfl (Nat.le_of_ble_eq_true rfl) dX2_letRain_70 (fun H locs hP hD hS => ?_)
        have hP : va_P D vwCl [(na 1, .inr (4, [.ref (na 4), .ref (na 5), .ref (na 6), .ref (na 7), .ref (na 8), .ref (na 9), .ref (na 10), .ref (na 11), .ref (na 12), .ref (na 13), .ref (na 14), .ref (na 15), .int (nI na_named), .int (nI na_houses), .int (nI na_quarrels), .int (nI na_cats), .int (nI na_grocers), .int na_gone, .int na_washes, .int na_goneCounts])), (ga 2, .inr (2, [.ref (ga 16), .ref (ga 17), .ref (ga 18), .ref (ga 19), .ref (ga 20), .int ga_over, .int ga_day, .int ga_rained, .int ga_purse, .int ga_bought, .int z34, .int ga_swept, .int ga_melted])), (ga 16, .inl (kc 0, 8, .inl f29)), (ga 17, .inl (kc 0, 8, .inl f30))] H := hP
        have hD : va_D A [(na 1, .inr (4, [.ref (na 4), .ref (na 5), .ref (na 6), .ref (na 7), .ref (na 8), .ref (na 9), .ref (na 10), .ref (na 11), .ref (na 12), .ref (na 13), .ref (na 14), .ref (na 15), .int (nI na_named), .int (nI na_houses), .int (nI na_quarrels), .int (nI na_cats), .int (nI na_grocers), .int na_gone, .int na_washes, .int na_goneCounts])), (ga 2, .inr (2, [.ref (ga 16), .ref (ga 17), .ref (ga 18), .ref (ga 19), .ref (ga 20), .int ga_over, .int ga_day, .int ga_rained, .int ga_purse, .int ga_bought, .int z34, .int ga_swept, .int ga_melted])), (ga 16, .inl (kc 0, 8, .inl f29)), (ga 17, .inl (kc 0, 8, .inl f30))] := hD
        refine lv_aload_n hx hb dX2_letRain_73 rfl (lv_at hl 2 rfl) ?_
        refine lv_iconst (v := 1) hx hb dX2_letRain_74 (by decide) ?_
        refine va_put (D := D) (ci := 2) (v := .int 1) (ty := .boolean) (C := RX2) (T := TX2) (N := 13) hx hb hts is_letRain_X2 tyX2 tyX2_ok nmX2 hown hK hP hD hS 1 rfl rfl 7 (by decide) (hts (.fieldLink RX2 38 "SaltStreet$Ground" "rained" "Z") (List.mem_of_getElem? (i := 2) rfl)) (fun _ h9 => h9) rfl (by decide +kernel) rfl rfl (Nat.le_of_ble_eq_true rfl) dX2_letRain_75 (fun H locs hP hD hS => ?_)
        have hP : va_P D vwCl [(na 1, .inr (4, [.ref (na 4), .ref (na 5), .ref (na 6), .ref (na 7), .ref (na 8), .ref (na 9), .ref (na 10), .ref (na 11), .ref (na 12), .ref (na 13), .ref (na 14), .ref (na 15), .int (nI na_named), .int (nI na_houses), .int (nI na_quarrels), .int (nI na_cats), .int (nI na_grocers), .int na_gone, .int na_washes, .int na_goneCounts])), (ga 2, .inr (2, [.ref (ga 16), .ref (ga 17), .ref (ga 18), .ref (ga 19), .ref (ga 20), .int ga_over, .int ga_day, .int 1, .int ga_purse, .int ga_bought, .int z34, .int ga_swept, .int ga_melted])), (ga 16, .inl (kc 0, 8, .inl f29)), (ga 17, .inl (kc 0, 8, .inl f30))] H := hP
        have hD : va_D A [(na 1, .inr (4, [.ref (na 4), .ref (na 5), .ref (na 6), .ref (na 7), .ref (na 8), .ref (na 9), .ref (na 10), .ref (na 11), .ref (na 12), .ref (na 13), .ref (na 14), .ref (na 15), .int (nI na_named), .int (nI na_houses), .int (nI na_quarrels), .int (nI na_cats), .int (nI na_grocers), .int na_gone, .int na_washes, .int na_goneCounts])), (ga 2, .inr (2, [.ref (ga 16), .ref (ga 17), .ref (ga 18), .ref (ga 19), .ref (ga 20), .int ga_over, .int ga_day, .int 1, .int ga_purse, .int ga_bought, .int z34, .int ga_swept, .int ga_melted])), (ga 16, .inl (kc 0, 8, .inl f29)), (ga 17, .inl (kc 0, 8, .inl f30))] := hD
        refine lv_iload_n hx hb dX2_letRain_78 rfl (lv_at hl 1 rfl) ?_
        have hP9 := hP.sub (ws' := [(na 1, .inr (4, [.ref (na 4), .ref (na 5), .ref (na 6), .ref (na 7), .ref (na 8), .ref (na 9), .ref (na 10), .ref (na 11), .ref (na 12), .ref (na 13), .ref (na 14), .ref (na 15), .int (nI na_named), .int (nI na_houses), .int (nI na_quarrels), .int (nI na_cats), .int (nI na_grocers), .int na_gone, .int na_washes, .int na_goneCounts])), (ga 2, .inr (2, [.ref (ga 16), .ref (ga 17), .ref (ga 18), .ref (ga 19), .ref (ga 20), .int ga_over, .int ga_day, .int 1, .int ga_purse, .int ga_bought, .int z34, .int ga_swept, .int ga_melted])), (ga 16, .inl (kc 0, 8, .inl f29)), (ga 17, .inl (kc 0, 8, .inl f30))]) [0, 1, 2, 3] rfl
        have hD9 := hD.sub (ws' := [(na 1, .inr (4, [.ref (na 4), .ref (na 5), .ref (na 6), .ref (na 7), .ref (na 8), .ref (na 9), .ref (na 10), .ref (na 11), .ref (na 12), .ref (na 13), .ref (na 14), .ref (na 15), .int (nI na_named), .int (nI na_houses), .int (nI na_quarrels), .int (nI na_cats), .int (nI na_grocers), .int na_gone, .int na_washes, .int na_goneCounts])), (ga 2, .inr (2, [.ref (ga 16), .ref (ga 17), .ref (ga 18), .ref (ga 19), .ref (ga 20), .int ga_over, .int ga_day, .int 1, .int ga_purse, .int ga_bought, .int z34, .int ga_swept, .int ga_melted])), (ga 16, .inl (kc 0, 8, .inl f29)), (ga 17, .inl (kc 0, 8, .inl f30))]) [0, 1, 2, 3] (by decide) rfl
        exact W.iret (v := z31) hx hb hr (fun t9 ht hW => ⟨⟨z31, (), rfl, trivial, 1, z34, f29, f30, Or.inr rfl, by rw [ht]; exact hP9, hD9⟩, hS.F ht⟩) hS.2.2 dX2_letRain_79
      · have nc33 := Nat.not_le.mp (fun q => c33 ((nI_leI (a := na_houses) (b := i28) (by omega) (by omega)).mpr q))
        refine lv_aload_n hx hb dX2_letRain_12 rfl (lv_at hl 3 rfl) ?_
        refine va_getN (D := D) (ci := 4) (v := .int na_washes) (C := RX4) (T := TX4) (N := 20) hx hb hts is_letRain_X4 hown hK hP 0 rfl rfl 18 (by decide) (hE.nw 51 rfl) (fun _ h9 => h9) rfl dX2_letRain_13 ?_
        refine lv_aload_n hx hb dX2_letRain_16 rfl (lv_at hl 2 rfl) ?_
        refine va_get (D := D) (ci := 2) (v := .ref (ga 16)) (C := RX2) (T := TX2) (N := 13) hx hb hts is_letRain_X2 hown hK hP 1 rfl rfl 0 (by decide) (hts (.fieldLink RX2 9 "SaltStreet$Ground" "salt" "[I") (List.mem_of_getElem? (i := 3) rfl)) (fun _ h9 => h9) rfl dX2_letRain_17 ?_
        refine lv_iload_n hx hb dX2_letRain_20 rfl (lv_at hl 0 rfl) ?_
        refine va_iald hx hb hK hP 2 0 (f := f29) rfl rfl (vp_in_nI (by omega) (by decide)) dX2_letRain_21 ?_
        refine lv_topi (fun z35 _ => ?_)
        refine va_mmin hx hb (by rw [hml, hl.1]) hown (hts (.methodLink RX2 84 Lib.Math.min.name) (List.mem_of_getElem? (i := 4) rfl)) (hts (.static Lib.Math.min.name) (List.mem_of_getElem? (i := 5) rfl)) (hts (.initialized "java/lang/Math") (List.mem_of_getElem? (i := 6) rfl)) (hts (.code Lib.Math.min.name Lib.Math.min.code 2 (some .int)) (List.mem_of_getElem? (i := 7) rfl)) (Nat.le_of_ble_eq_true rfl) (Nat.le_of_ble_eq_true rfl) (Nat.le_of_ble_eq_true rfl) (Nat.le_of_ble_eq_true rfl) dX2_letRain_22 ?_
        refine lv_topi (fun z36 _ => ?_)
        refine lv_istore (lv' := [(4, .int z36), (3, .int (nI i28)), (2, .int z31), (0, .ref (ga 2)), (1, .ref (na 1))]) hx hb dX2_letRain_25 hl (by decide) rfl (fun ls hl => ?_)
        refine lv_iload_n hx hb dX2_letRain_27 rfl (lv_at hl 2 rfl) ?_
        refine lv_aload_n hx hb dX2_letRain_28 rfl (lv_at hl 3 rfl) ?_
        refine va_get (D := D) (ci := 2) (v := .ref (ga 17)) (C := RX2) (T := TX2) (N := 13) hx hb hts is_letRain_X2 hown hK hP 1 rfl rfl 1 (by decide) (hts (.fieldLink RX2 15 "SaltStreet$Ground" "sugar" "[I") (List.mem_of_getElem? (i := 8) rfl)) (fun _ h9 => h9) rfl dX2_letRain_29 ?_
        refine lv_iload_n hx hb dX2_letRain_32 rfl (lv_at hl 1 rfl) ?_
        refine va_iald hx hb hK hP 3 0 (f := f30) rfl rfl (vp_in_nI (by omega) (by decide)) dX2_letRain_33 ?_
        refine lv_topi (fun z37 _ => ?_)
        refine lv_iload hx hb dX2_letRain_34 (lv_at hl 0 rfl) ?_
        refine lv_iadd hx hb dX2_letRain_36 ?_
        refine lv_topi (fun z38 _ => ?_)
        refine lv_iadd hx hb dX2_letRain_37 ?_
        refine lv_topi (fun z39 _ => ?_)
        refine lv_istore_n (lv' := [(2, .int z39), (4, .int z36), (3, .int (nI i28)), (0, .ref (ga 2)), (1, .ref (na 1))]) hx hb dX2_letRain_38 rfl hl (by decide) rfl (fun ls hl => ?_)
        refine lv_aload_n hx hb dX2_letRain_39 rfl (lv_at hl 3 rfl) ?_
        refine va_get (D := D) (ci := 2) (v := .ref (ga 17)) (C := RX2) (T := TX2) (N := 13) hx hb hts is_letRain_X2 hown hK hP 1 rfl rfl 1 (by decide) (hts (.fieldLink RX2 15 "SaltStreet$Ground" "sugar" "[I") (List.mem_of_getElem? (i := 8) rfl)) (fun _ h9 => h9) rfl dX2_letRain_40 ?_
        refine lv_iload_n hx hb dX2_letRain_43 rfl (lv_at hl 2 rfl) ?_
        refine lv_iconst (v := 0) hx hb dX2_letRain_44 (by decide) ?_
        refine va_iast hx hb hK hP hD hS 3 0 (f := f30) rfl rfl (vp_in_nI (by omega) (by decide)) dX2_letRain_45 (fun H locs hP hD hS => ?_)
        have hP : va_P D vwCl [(na 1, .inr (4, [.ref (na 4), .ref (na 5), .ref (na 6), .ref (na 7), .ref (na 8), .ref (na 9), .ref (na 10), .ref (na 11), .ref (na 12), .ref (na 13), .ref (na 14), .ref (na 15), .int (nI na_named), .int (nI na_houses), .int (nI na_quarrels), .int (nI na_cats), .int (nI na_grocers), .int na_gone, .int na_washes, .int na_goneCounts])), (ga 2, .inr (2, [.ref (ga 16), .ref (ga 17), .ref (ga 18), .ref (ga 19), .ref (ga 20), .int ga_over, .int ga_day, .int ga_rained, .int ga_purse, .int ga_bought, .int ga_washed, .int ga_swept, .int ga_melted])), (ga 16, .inl (kc 0, 8, .inl f29)), (ga 17, .inl (kc 0, 8, .inl (upd f30 ((nI i28) : Int32).toNatClampNeg 0)))] H := hP
        have hD : va_D A [(na 1, .inr (4, [.ref (na 4), .ref (na 5), .ref (na 6), .ref (na 7), .ref (na 8), .ref (na 9), .ref (na 10), .ref (na 11), .ref (na 12), .ref (na 13), .ref (na 14), .ref (na 15), .int (nI na_named), .int (nI na_houses), .int (nI na_quarrels), .int (nI na_cats), .int (nI na_grocers), .int na_gone, .int na_washes, .int na_goneCounts])), (ga 2, .inr (2, [.ref (ga 16), .ref (ga 17), .ref (ga 18), .ref (ga 19), .ref (ga 20), .int ga_over, .int ga_day, .int ga_rained, .int ga_purse, .int ga_bought, .int ga_washed, .int ga_swept, .int ga_melted])), (ga 16, .inl (kc 0, 8, .inl f29)), (ga 17, .inl (kc 0, 8, .inl (upd f30 ((nI i28) : Int32).toNatClampNeg 0)))] := hD
        generalize (upd f30 ((nI i28) : Int32).toNatClampNeg 0) = f40 at hP hD
        refine lv_aload_n hx hb dX2_letRain_46 rfl (lv_at hl 3 rfl) ?_
        refine va_get (D := D) (ci := 2) (v := .ref (ga 16)) (C := RX2) (T := TX2) (N := 13) hx hb hts is_letRain_X2 hown hK hP 1 rfl rfl 0 (by decide) (hts (.fieldLink RX2 9 "SaltStreet$Ground" "salt" "[I") (List.mem_of_getElem? (i := 3) rfl)) (fun _ h9 => h9) rfl dX2_letRain_47 ?_
        refine lv_iload_n hx hb dX2_letRain_50 rfl (lv_at hl 2 rfl) ?_
        refine lv_dup2_11 hx hb dX2_letRain_51 rfl rfl ?_
        refine va_iald hx hb hK hP 2 0 (f := f29) rfl rfl (vp_in_nI (by omega) (by decide)) dX2_letRain_52 ?_
        refine lv_topi (fun z41 _ => ?_)
        refine lv_iload hx hb dX2_letRain_53 (lv_at hl 1 rfl) ?_
        refine lv_isub hx hb dX2_letRain_55 ?_
        refine lv_topi (fun z42 _ => ?_)
        refine va_iast hx hb hK hP hD hS 2 0 (f := f29) rfl rfl (vp_in_nI (by omega) (by decide)) dX2_letRain_56 (fun H locs hP hD hS => ?_)
        have hP : va_P D vwCl [(na 1, .inr (4, [.ref (na 4), .ref (na 5), .ref (na 6), .ref (na 7), .ref (na 8), .ref (na 9), .ref (na 10), .ref (na 11), .ref (na 12), .ref (na 13), .ref (na 14), .ref (na 15), .int (nI na_named), .int (nI na_houses), .int (nI na_quarrels), .int (nI na_cats), .int (nI na_grocers), .int na_gone, .int na_washes, .int na_goneCounts])), (ga 2, .inr (2, [.ref (ga 16), .ref (ga 17), .ref (ga 18), .ref (ga 19), .ref (ga 20), .int ga_over, .int ga_day, .int ga_rained, .int ga_purse, .int ga_bought, .int ga_washed, .int ga_swept, .int ga_melted])), (ga 16, .inl (kc 0, 8, .inl (upd f29 ((nI i28) : Int32).toNatClampNeg z42))), (ga 17, .inl (kc 0, 8, .inl f40))] H := hP
        have hD : va_D A [(na 1, .inr (4, [.ref (na 4), .ref (na 5), .ref (na 6), .ref (na 7), .ref (na 8), .ref (na 9), .ref (na 10), .ref (na 11), .ref (na 12), .ref (na 13), .ref (na 14), .ref (na 15), .int (nI na_named), .int (nI na_houses), .int (nI na_quarrels), .int (nI na_cats), .int (nI na_grocers), .int na_gone, .int na_washes, .int na_goneCounts])), (ga 2, .inr (2, [.ref (ga 16), .ref (ga 17), .ref (ga 18), .ref (ga 19), .ref (ga 20), .int ga_over, .int ga_day, .int ga_rained, .int ga_purse, .int ga_bought, .int ga_washed, .int ga_swept, .int ga_melted])), (ga 16, .inl (kc 0, 8, .inl (upd f29 ((nI i28) : Int32).toNatClampNeg z42))), (ga 17, .inl (kc 0, 8, .inl f40))] := hD
        generalize (upd f29 ((nI i28) : Int32).toNatClampNeg z42) = f43 at hP hD
        refine lv_iinc (v := (nI (i28 + 1))) (lv' := [(3, .int (nI (i28 + 1))), (2, .int z39), (4, .int z36), (0, .ref (ga 2)), (1, .ref (na 1))]) hx hb dX2_letRain_57 hl (k := 2) rfl (nI_1 _) (by decide) rfl (fun ls hl => ?_)
        refine lv_goto (tgt := 4) hx hb dX2_letRain_60 (by decide) ?_
        exact ih_n9_4_32 (i28 + 1) f43 f40 z39 (by omega) (by omega) _ _ ls hP hD hS (lv_sub hl [0, 1, 3, 4] rfl)
  exact loop_n9_4_32 (na_houses + 1) 0 ga_salt ga_sugar 0 (by omega) (by omega) _ _ ls hP hD hS (lv_sub hl [0, 1, 2, 3] rfl)
theorem dX2_letSnow_0 : decode cX2_letSnow 0 = .ok (.iconst 0, 1) := by decide +kernel
theorem dX2_letSnow_1 : decode cX2_letSnow 1 = .ok (.istore_n 3, 1) := by decide +kernel
theorem dX2_letSnow_2 : decode cX2_letSnow 2 = .ok (.iload_n 3, 1) := by decide +kernel
theorem dX2_letSnow_3 : decode cX2_letSnow 3 = .ok (.aload_n 1, 1) := by decide +kernel
theorem dX2_letSnow_4 : decode cX2_letSnow 4 = .ok (.getfield 65, 3) := by decide +kernel
theorem dX2_letSnow_7 : decode cX2_letSnow 7 = .ok (.if_icmp .ge 36, 3) := by decide +kernel
theorem dX2_letSnow_43 : decode cX2_letSnow 43 = .ok (.return_, 1) := by decide +kernel
theorem dX2_letSnow_10 : decode cX2_letSnow 10 = .ok (.aload_n 1, 1) := by decide +kernel
theorem dX2_letSnow_11 : decode cX2_letSnow 11 = .ok (.iload_n 3, 1) := by decide +kernel
theorem dX2_letSnow_12 : decode cX2_letSnow 12 = .ok (.invokevirtual 93, 3) := by decide +kernel
theorem dX2_letSnow_15 : decode cX2_letSnow 15 = .ok (.ifCond .ne 22, 3) := by decide +kernel
theorem dX2_letSnow_37 : decode cX2_letSnow 37 = .ok (.iinc 3 1, 3) := by decide +kernel
theorem dX2_letSnow_40 : decode cX2_letSnow 40 = .ok (.goto (-38), 3) := by decide +kernel
theorem dX2_letSnow_18 : decode cX2_letSnow 18 = .ok (.aload_n 0, 1) := by decide +kernel
theorem dX2_letSnow_19 : decode cX2_letSnow 19 = .ok (.getfield 18, 3) := by decide +kernel
theorem dX2_letSnow_22 : decode cX2_letSnow 22 = .ok (.iload_n 3, 1) := by decide +kernel
theorem dX2_letSnow_23 : decode cX2_letSnow 23 = .ok (.bipush 99, 2) := by decide +kernel
theorem dX2_letSnow_25 : decode cX2_letSnow 25 = .ok (.aload_n 0, 1) := by decide +kernel
theorem dX2_letSnow_26 : decode cX2_letSnow 26 = .ok (.getfield 18, 3) := by decide +kernel
theorem dX2_letSnow_29 : decode cX2_letSnow 29 = .ok (.iload_n 3, 1) := by decide +kernel
theorem dX2_letSnow_30 : decode cX2_letSnow 30 = .ok (.iaload, 1) := by decide +kernel
theorem dX2_letSnow_31 : decode cX2_letSnow 31 = .ok (.iload_n 2, 1) := by decide +kernel
theorem dX2_letSnow_32 : decode cX2_letSnow 32 = .ok (.iadd, 1) := by decide +kernel
theorem dX2_letSnow_33 : decode cX2_letSnow 33 = .ok (.invokestatic 84, 3) := by decide +kernel
theorem dX2_letSnow_36 : decode cX2_letSnow 36 = .ok (.iastore, 1) := by decide +kernel
def vds_letSnow : List Cond := [.code yX2_letSnow cX2_letSnow 4 none, .methodLink RX2 93 yX4_isGone, .code yX4_isGone cX4_isGone 2 (some .boolean), .fieldLink RX4 72 "SaltStreet$Plan" "gone" "I", .instanceMethod yX4_isGone, .selects RX4 yX4_isGone yX4_isGone, .initialized RX4, .fieldLink RX2 18 "SaltStreet$Ground" "snow" "[I", .methodLink RX2 84 Lib.Math.min.name, .static Lib.Math.min.name, .initialized "java/lang/Math", .code Lib.Math.min.name Lib.Math.min.code 2 (some .int)]
def vs_letSnow : List Cond := vds_letSnow ++ (wsX40 ++ (wsX20 ++ ([] : List Cond)))
theorem is_letSnow_X4 : ∀ w ∈ wsX40, w ∈ vs_letSnow := fun _ h => List.mem_append_right _ (List.mem_append_left _ h)
theorem is_letSnow_X2 : ∀ w ∈ wsX20, w ∈ vs_letSnow := fun _ h => List.mem_append_right _ (List.mem_append_right _ (List.mem_append_left _ h))
set_option maxRecDepth 20000 in
theorem gs_letSnow_93_s_isGone : GoodIn vs_letSnow (wsV RX2 93 RX4 yX4_isGone vs_isGone) := (goodIn_app (goodIn_r _ [1, 4, 5, 6] rfl (by decide +kernel)) (goodIn_app (goodIn_r vds_isGone [2, 3] rfl (by decide +kernel)) (goodIn_app (goodIn_sub is_letSnow_X4 gdX4) goodIn_nil)))
set_option maxHeartbeats 4000000 in
set_option maxRecDepth 100000 in
theorem s_letSnow (l : Launch) (D : va_G) (kc : Nat → ClassId) (sz : Nat) (na : Nat → Nat) (ga : Nat → Nat) (na_named : Nat) (na_houses : Nat) (na_quarrels : Nat) (na_cats : Nat) (na_grocers : Nat) (na_gone : Int32) (na_washes : Int32) (na_goneCounts : Int32) (ga_over : Int32) (ga_day : Int32) (ga_rained : Int32) (ga_purse : Int32) (ga_bought : Int32) (ga_washed : Int32) (ga_swept : Int32) (ga_melted : Int32) (ga_snow : Nat → Int32) (a0 : Int32) (h_na_named : na_named ≤ 24) (h_na_houses : na_houses ≤ 8) (h_na_quarrels : na_quarrels ≤ 8) (h_na_cats : na_cats ≤ 4) (h_na_grocers : na_grocers ≤ 4) (h_na_goneCounts : na_goneCounts = 0 ∨ na_goneCounts = 1) (h_ga_rained : ga_rained = 0 ∨ ga_rained = 1) : Met l yX2_letSnow vs_letSnow ({ frames := 1, cells := 0, slots := 0, locals := 21 }) (va_Pc [.ref (ga 2), .ref (na 1), .int a0] (wPre D kc [(na 1, .inr (4, [.ref (na 4), .ref (na 5), .ref (na 6), .ref (na 7), .ref (na 8), .ref (na 9), .ref (na 10), .ref (na 11), .ref (na 12), .ref (na 13), .ref (na 14), .ref (na 15), .int (nI na_named), .int (nI na_houses), .int (nI na_quarrels), .int (nI na_cats), .int (nI na_grocers), .int na_gone, .int na_washes, .int na_goneCounts])), (ga 2, .inr (2, [.ref (ga 16), .ref (ga 17), .ref (ga 18), .ref (ga 19), .ref (ga 20), .int ga_over, .int ga_day, .int ga_rained, .int ga_purse, .int ga_bought, .int ga_washed, .int ga_swept, .int ga_melted])), (ga 18, .inl (kc 0, 8, .inl ga_snow))] sz)) (va_Qv (fun (_ : Unit) => True) (fun (_ : Unit) (t9 : State) => ∃ ga_snow_n : Nat → Int32, va_P D vwCl [(na 1, .inr (4, [.ref (na 4), .ref (na 5), .ref (na 6), .ref (na 7), .ref (na 8), .ref (na 9), .ref (na 10), .ref (na 11), .ref (na 12), .ref (na 13), .ref (na 14), .ref (na 15), .int (nI na_named), .int (nI na_houses), .int (nI na_quarrels), .int (nI na_cats), .int (nI na_grocers), .int na_gone, .int na_washes, .int na_goneCounts])), (ga 2, .inr (2, [.ref (ga 16), .ref (ga 17), .ref (ga 18), .ref (ga 19), .ref (ga 20), .int ga_over, .int ga_day, .int ga_rained, .int ga_purse, .int ga_bought, .int ga_washed, .int ga_swept, .int ga_melted])), (ga 18, .inl (kc 0, 8, .inl ga_snow_n))] t9.heap ∧ va_D (va_A [(na 1, .inr (4, [.ref (na 4), .ref (na 5), .ref (na 6), .ref (na 7), .ref (na 8), .ref (na 9), .ref (na 10), .ref (na 11), .ref (na 12), .ref (na 13), .ref (na 14), .ref (na 15), .int (nI na_named), .int (nI na_houses), .int (nI na_quarrels), .int (nI na_cats), .int (nI na_grocers), .int na_gone, .int na_washes, .int na_goneCounts])), (ga 2, .inr (2, [.ref (ga 16), .ref (ga 17), .ref (ga 18), .ref (ga 19), .ref (ga 20), .int ga_over, .int ga_day, .int ga_rained, .int ga_purse, .int ga_bought, .int ga_washed, .int ga_swept, .int ga_melted])), (ga 18, .inl (kc 0, 8, .inl ga_snow))] sz) [(na 1, .inr (4, [.ref (na 4), .ref (na 5), .ref (na 6), .ref (na 7), .ref (na 8), .ref (na 9), .ref (na 10), .ref (na 11), .ref (na 12), .ref (na 13), .ref (na 14), .ref (na 15), .int (nI na_named), .int (nI na_houses), .int (nI na_quarrels), .int (nI na_cats), .int (nI na_grocers), .int na_gone, .int na_washes, .int na_goneCounts])), (ga 2, .inr (2, [.ref (ga 16), .ref (ga 17), .ref (ga 18), .ref (ga 19), .ref (ga 20), .int ga_over, .int ga_day, .int ga_rained, .int ga_purse, .int ga_bought, .int ga_washed, .int ga_swept, .int ga_melted])), (ga 18, .inl (kc 0, 8, .inl ga_snow_n))]) (va_A [(na 1, .inr (4, [.ref (na 4), .ref (na 5), .ref (na 6), .ref (na 7), .ref (na 8), .ref (na 9), .ref (na 10), .ref (na 11), .ref (na 12), .ref (na 13), .ref (na 14), .ref (na 15), .int (nI na_named), .int (nI na_houses), .int (nI na_quarrels), .int (nI na_cats), .int (nI na_grocers), .int na_gone, .int na_washes, .int na_goneCounts])), (ga 2, .inr (2, [.ref (ga 16), .ref (ga 17), .ref (ga 18), .ref (ga 19), .ref (ga 20), .int ga_over, .int ga_day, .int ga_rained, .int ga_purse, .int ga_bought, .int ga_washed, .int ga_swept, .int ga_melted])), (ga 18, .inl (kc 0, 8, .inl ga_snow))] sz)) 0 0 (va_A [(na 1, .inr (4, [.ref (na 4), .ref (na 5), .ref (na 6), .ref (na 7), .ref (na 8), .ref (na 9), .ref (na 10), .ref (na 11), .ref (na 12), .ref (na 13), .ref (na 14), .ref (na 15), .int (nI na_named), .int (nI na_houses), .int (nI na_quarrels), .int (nI na_cats), .int (nI na_grocers), .int na_gone, .int na_washes, .int na_goneCounts])), (ga 2, .inr (2, [.ref (ga 16), .ref (ga 17), .ref (ga 18), .ref (ga 19), .ref (ga 20), .int ga_over, .int ga_day, .int ga_rained, .int ga_purse, .int ga_bought, .int ga_washed, .int ga_swept, .int ga_melted])), (ga 18, .inl (kc 0, 8, .inl ga_snow))] sz) := by
  refine Met.ofW (cc := cX2_letSnow) (maxL := 4) (ret := none) (by decide) rfl ?_
  intro p e s m args below meth c s₁ B hml hv
  obtain ⟨rfl, hsz, hP, hE, hD0⟩ := hv
  have hx := B.exec
  have hb := B.bytes
  have hr := B.returns
  have hts := atoms_spec (ws := vs_letSnow) B.pre
  have hown : s.vm.findClass RX2 = some m.cls := findClass_of_methodNamed B.named
  have hlocks := B.notSynchronized
  subst hsz
  have hD := hD0.self (sz := s.heap.size)
  generalize hAe : va_A [(na 1, .inr (4, [.ref (na 4), .ref (na 5), .ref (na 6), .ref (na 7), .ref (na 8), .ref (na 9), .ref (na 10), .ref (na 11), .ref (na 12), .ref (na 13), .ref (na 14), .ref (na 15), .int (nI na_named), .int (nI na_houses), .int (nI na_quarrels), .int (nI na_cats), .int (nI na_grocers), .int na_gone, .int na_washes, .int na_goneCounts])), (ga 2, .inr (2, [.ref (ga 16), .ref (ga 17), .ref (ga 18), .ref (ga 19), .ref (ga 20), .int ga_over, .int ga_day, .int ga_rained, .int ga_purse, .int ga_bought, .int ga_washed, .int ga_swept, .int ga_melted])), (ga 18, .inl (kc 0, 8, .inl ga_snow))] s.heap.size = A at hD ⊢
  have hA : ∀ q : Nat, s.heap.size ≤ q → A q := fun q h => by rw [← hAe]; exact Or.inr h
  have hS : va_S A s.heap s.heap [] := va_S.rf
  have hK := hE.1
  have hP : va_P D vwCl [(na 1, .inr (4, [.ref (na 4), .ref (na 5), .ref (na 6), .ref (na 7), .ref (na 8), .ref (na 9), .ref (na 10), .ref (na 11), .ref (na 12), .ref (na 13), .ref (na 14), .ref (na 15), .int (nI na_named), .int (nI na_houses), .int (nI na_quarrels), .int (nI na_cats), .int (nI na_grocers), .int na_gone, .int na_washes, .int na_goneCounts])), (ga 2, .inr (2, [.ref (ga 16), .ref (ga 17), .ref (ga 18), .ref (ga 19), .ref (ga 20), .int ga_over, .int ga_day, .int ga_rained, .int ga_purse, .int ga_bought, .int ga_washed, .int ga_swept, .int ga_melted])), (ga 18, .inl (kc 0, 8, .inl ga_snow))] s.heap := hP
  have hl := lv_entry ([.ref (ga 2), .ref (na 1), .int a0]) (n := 4) (Nat.le_of_ble_eq_true rfl)
  rw [lg_entry_eq]
  generalize (lg_sl ([.ref (ga 2), .ref (na 1), .int a0]) ++ List.replicate (4 - (lg_sl ([.ref (ga 2), .ref (na 1), .int a0])).length) Slot.unset).toArray = ls at hl ⊢
  have hl : lv_has ls 4 [(0, .ref (ga 2)), (1, .ref (na 1)), (2, .int a0)] := hl
  refine lv_iconst (v := 0) hx hb dX2_letSnow_0 (by decide) ?_
  refine lv_istore_n (lv' := [(3, .int 0), (0, .ref (ga 2)), (1, .ref (na 1)), (2, .int a0)]) hx hb dX2_letSnow_1 rfl hl (by decide) rfl (fun ls hl => ?_)
  have loop_n9_2_20 : ∀ (n9_2_20 : Nat) (i18 : Nat) (f19 : Nat → Int32), i18 ≤ na_houses → na_houses < i18 + n9_2_20 → ∀ (H : Heap) (locs : List Loc) (ls : Array Slot), va_P D vwCl [(na 1, .inr (4, [.ref (na 4), .ref (na 5), .ref (na 6), .ref (na 7), .ref (na 8), .ref (na 9), .ref (na 10), .ref (na 11), .ref (na 12), .ref (na 13), .ref (na 14), .ref (na 15), .int (nI na_named), .int (nI na_houses), .int (nI na_quarrels), .int (nI na_cats), .int (nI na_grocers), .int na_gone, .int na_washes, .int na_goneCounts])), (ga 2, .inr (2, [.ref (ga 16), .ref (ga 17), .ref (ga 18), .ref (ga 19), .ref (ga 20), .int ga_over, .int ga_day, .int ga_rained, .int ga_purse, .int ga_bought, .int ga_washed, .int ga_swept, .int ga_melted])), (ga 18, .inl (kc 0, 8, .inl f19))] H → va_D A [(na 1, .inr (4, [.ref (na 4), .ref (na 5), .ref (na 6), .ref (na 7), .ref (na 8), .ref (na 9), .ref (na 10), .ref (na 11), .ref (na 12), .ref (na 13), .ref (na 14), .ref (na 15), .int (nI na_named), .int (nI na_houses), .int (nI na_quarrels), .int (nI na_cats), .int (nI na_grocers), .int na_gone, .int na_washes, .int na_goneCounts])), (ga 2, .inr (2, [.ref (ga 16), .ref (ga 17), .ref (ga 18), .ref (ga 19), .ref (ga 20), .int ga_over, .int ga_day, .int ga_rained, .int ga_purse, .int ga_bought, .int ga_washed, .int ga_swept, .int ga_melted])), (ga 18, .inl (kc 0, 8, .inl f19))] → va_S A s.heap H locs → lv_has ls 4 [(3, .int (nI i18)), (0, .ref (ga 2)), (1, .ref (na 1)), (2, .int a0)] → W p l e (headSpec vs_letSnow ({ frames := 1, cells := 0, slots := 0, locals := 21 })).room s m [.ref (ga 2), .ref (na 1), .int a0].toArray below meth c H locs 0 0 (MQ below (va_Qv (fun (_ : Unit) => True) (fun (_ : Unit) (t9 : State) => ∃ ga_snow_n : Nat → Int32, va_P D vwCl [(na 1, .inr (4, [.ref (na 4), .ref (na 5), .ref (na 6), .ref (na 7), .ref (na 8), .ref (na 9), .ref (na 10), .ref (na 11), .ref (na 12), .ref (na 13), .ref (na 14), .ref (na 15), .int (nI na_named), .int (nI na_houses), .int (nI na_quarrels), .int (nI na_cats), .int (nI na_grocers), .int na_gone, .int na_washes, .int na_goneCounts])), (ga 2, .inr (2, [.ref (ga 16), .ref (ga 17), .ref (ga 18), .ref (ga 19), .ref (ga 20), .int ga_over, .int ga_day, .int ga_rained, .int ga_purse, .int ga_bought, .int ga_washed, .int ga_swept, .int ga_melted])), (ga 18, .inl (kc 0, 8, .inl ga_snow_n))] t9.heap ∧ va_D A [(na 1, .inr (4, [.ref (na 4), .ref (na 5), .ref (na 6), .ref (na 7), .ref (na 8), .ref (na 9), .ref (na 10), .ref (na 11), .ref (na 12), .ref (na 13), .ref (na 14), .ref (na 15), .int (nI na_named), .int (nI na_houses), .int (nI na_quarrels), .int (nI na_cats), .int (nI na_grocers), .int na_gone, .int na_washes, .int na_goneCounts])), (ga 2, .inr (2, [.ref (ga 16), .ref (ga 17), .ref (ga 18), .ref (ga 19), .ref (ga 20), .int ga_over, .int ga_day, .int ga_rained, .int ga_purse, .int ga_bought, .int ga_washed, .int ga_swept, .int ga_melted])), (ga 18, .inl (kc 0, 8, .inl ga_snow_n))]) A) [.ref (ga 2), .ref (na 1), .int a0].toArray s 0 0 A) (F0 m 2 ls []) := by
    intro n9_2_20
    induction n9_2_20 with
    | zero => intro i18 f19  h1 h2; exact absurd h2 (by omega)
    | succ n9_2_20 ih_n9_2_20 =>
      intro i18 f19  h1_n9_2_20 h2_n9_2_20 H locs ls hP hD hS hl
      refine lv_iload_n hx hb dX2_letSnow_2 rfl (lv_at hl 0 rfl) ?_
      refine lv_aload_n hx hb dX2_letSnow_3 rfl (lv_at hl 2 rfl) ?_
      refine va_getN (D := D) (ci := 4) (v := .int (nI na_houses)) (C := RX4) (T := TX4) (N := 20) hx hb hts is_letSnow_X4 hown hK hP 0 rfl rfl 13 (by decide) (hE.nw 35 rfl) (fun _ h9 => h9) rfl dX2_letSnow_4 ?_
      refine lv_icmp_ge (tgt := 43) hx hb dX2_letSnow_7 (by decide) (fun c21 => ?_) (fun c21 => ?_)
      · have nc21 := (nI_leI (a := na_houses) (b := i18) (by omega) (by omega)).mp c21
        have hP9 := hP.sub (ws' := [(na 1, .inr (4, [.ref (na 4), .ref (na 5), .ref (na 6), .ref (na 7), .ref (na 8), .ref (na 9), .ref (na 10), .ref (na 11), .ref (na 12), .ref (na 13), .ref (na 14), .ref (na 15), .int (nI na_named), .int (nI na_houses), .int (nI na_quarrels), .int (nI na_cats), .int (nI na_grocers), .int na_gone, .int na_washes, .int na_goneCounts])), (ga 2, .inr (2, [.ref (ga 16), .ref (ga 17), .ref (ga 18), .ref (ga 19), .ref (ga 20), .int ga_over, .int ga_day, .int ga_rained, .int ga_purse, .int ga_bought, .int ga_washed, .int ga_swept, .int ga_melted])), (ga 18, .inl (kc 0, 8, .inl f19))]) [0, 1, 2] rfl
        have hD9 := hD.sub (ws' := [(na 1, .inr (4, [.ref (na 4), .ref (na 5), .ref (na 6), .ref (na 7), .ref (na 8), .ref (na 9), .ref (na 10), .ref (na 11), .ref (na 12), .ref (na 13), .ref (na 14), .ref (na 15), .int (nI na_named), .int (nI na_houses), .int (nI na_quarrels), .int (nI na_cats), .int (nI na_grocers), .int na_gone, .int na_washes, .int na_goneCounts])), (ga 2, .inr (2, [.ref (ga 16), .ref (ga 17), .ref (ga 18), .ref (ga 19), .ref (ga 20), .int ga_over, .int ga_day, .int ga_rained, .int ga_purse, .int ga_bought, .int ga_washed, .int ga_swept, .int ga_melted])), (ga 18, .inl (kc 0, 8, .inl f19))]) [0, 1, 2] (by decide) rfl
        exact W.vret hx hb hr (fun t9 ht hW => ⟨⟨(), rfl, trivial, f19, by rw [ht]; exact hP9, hD9⟩, hS.F ht⟩) hS.2.2 dX2_letSnow_43
      · have nc21 := Nat.not_le.mp (fun q => c21 ((nI_leI (a := na_houses) (b := i18) (by omega) (by omega)).mpr q))
        refine lv_aload_n hx hb dX2_letSnow_10 rfl (lv_at hl 2 rfl) ?_
        refine lv_iload_n hx hb dX2_letSnow_11 rfl (lv_at hl 0 rfl) ?_
        have hPc := hP.sub (ws' := [(na 1, .inr (4, [.ref (na 4), .ref (na 5), .ref (na 6), .ref (na 7), .ref (na 8), .ref (na 9), .ref (na 10), .ref (na 11), .ref (na 12), .ref (na 13), .ref (na 14), .ref (na 15), .int (nI na_named), .int (nI na_houses), .int (nI na_quarrels), .int (nI na_cats), .int (nI na_grocers), .int na_gone, .int na_washes, .int na_goneCounts]))]) [0] rfl
        have hDc := hD.sub (ws' := [(na 1, .inr (4, [.ref (na 4), .ref (na 5), .ref (na 6), .ref (na 7), .ref (na 8), .ref (na 9), .ref (na 10), .ref (na 11), .ref (na 12), .ref (na 13), .ref (na 14), .ref (na 15), .int (nI na_named), .int (nI na_houses), .int (nI na_quarrels), .int (nI na_cats), .int (nI na_grocers), .int na_gone, .int na_washes, .int na_goneCounts]))]) [0] (by decide) rfl
        have hFc := va_free (wc := [(na 1, .inr (4, [.ref (na 4), .ref (na 5), .ref (na 6), .ref (na 7), .ref (na 8), .ref (na 9), .ref (na 10), .ref (na 11), .ref (na 12), .ref (na 13), .ref (na 14), .ref (na 15), .int (nI na_named), .int (nI na_houses), .int (nI na_quarrels), .int (nI na_cats), .int (nI na_grocers), .int na_gone, .int na_washes, .int na_goneCounts]))]) hD hS hA [0] rfl
        refine va_calli (va_runV (As := [.int (nI i18)]) (rest := []) ⟨hx, hb, hml, hown, hts⟩ (s_isGone l D kc H.size na na_named na_houses na_quarrels na_cats na_grocers na_gone na_washes na_goneCounts (nI i18) (by omega) (by omega) (by omega) (by omega) (by omega) h_na_goneCounts) (cwV 1 hts gs_letSnow_93_s_isGone rfl rfl rfl (by decide +kernel) ⟨Nat.le_of_ble_eq_true rfl, Nat.le_of_ble_eq_true rfl⟩) (preV_ok hPc hDc hE (ci := 4) (q0 := 0) rfl rfl) rfl rfl hl.1 rfl (lv_room (Nat.le_of_ble_eq_true rfl)) dX2_letSnow_12 ⟨Nat.le_of_ble_eq_true rfl, Nat.le_of_ble_eq_true rfl⟩) hS (fun q _ h => hFc q h) hFc (fun r22 u9 t9 H locs ht hvm hw hB hz1 hk1 hS => ?_)
        obtain ⟨hP1, hD1⟩ := hB
        rw [ht] at hP1
        obtain ⟨hP, hD⟩ := va_join (wr := [(ga 2, .inr (2, [.ref (ga 16), .ref (ga 17), .ref (ga 18), .ref (ga 19), .ref (ga 20), .int ga_over, .int ga_day, .int ga_rained, .int ga_purse, .int ga_bought, .int ga_washed, .int ga_swept, .int ga_melted])), (ga 18, .inl (kc 0, 8, .inl f19))]) (w1 := [(na 1, .inr (4, [.ref (na 4), .ref (na 5), .ref (na 6), .ref (na 7), .ref (na 8), .ref (na 9), .ref (na 10), .ref (na 11), .ref (na 12), .ref (na 13), .ref (na 14), .ref (na 15), .int (nI na_named), .int (nI na_houses), .int (nI na_quarrels), .int (nI na_cats), .int (nI na_grocers), .int na_gone, .int na_washes, .int na_goneCounts]))]) hP hD [0] [1, 2] rfl rfl (by decide) (by decide) hk1 hFc hP1 hD1
        have hP : va_P D vwCl [(ga 2, .inr (2, [.ref (ga 16), .ref (ga 17), .ref (ga 18), .ref (ga 19), .ref (ga 20), .int ga_over, .int ga_day, .int ga_rained, .int ga_purse, .int ga_bought, .int ga_washed, .int ga_swept, .int ga_melted])), (ga 18, .inl (kc 0, 8, .inl f19)), (na 1, .inr (4, [.ref (na 4), .ref (na 5), .ref (na 6), .ref (na 7), .ref (na 8), .ref (na 9), .ref (na 10), .ref (na 11), .ref (na 12), .ref (na 13), .ref (na 14), .ref (na 15), .int (nI na_named), .int (nI na_houses), .int (nI na_quarrels), .int (nI na_cats), .int (nI na_grocers), .int na_gone, .int na_washes, .int na_goneCounts]))] H := hP
        have hD : va_D A [(ga 2, .inr (2, [.ref (ga 16), .ref (ga 17), .ref (ga 18), .ref (ga 19), .ref (ga 20), .int ga_over, .int ga_day, .int ga_rained, .int ga_purse, .int ga_bought, .int ga_washed, .int ga_swept, .int ga_melted])), (ga 18, .inl (kc 0, 8, .inl f19)), (na 1, .inr (4, [.ref (na 4), .ref (na 5), .ref (na 6), .ref (na 7), .ref (na 8), .ref (na 9), .ref (na 10), .ref (na 11), .ref (na 12), .ref (na 13), .ref (na 14), .ref (na 15), .int (nI na_named), .int (nI na_houses), .int (nI na_quarrels), .int (nI na_cats), .int (nI na_grocers), .int na_gone, .int na_washes, .int na_goneCounts]))] := hD
        have h_r22 := hw
        refine lv_if_ne (tgt := 37) hx hb dX2_letSnow_15 (by decide) (fun c23 => ?_) (fun c23 => ?_)
        · refine lv_iinc (v := (nI (i18 + 1))) (lv' := [(3, .int (nI (i18 + 1))), (0, .ref (ga 2)), (1, .ref (na 1)), (2, .int a0)]) hx hb dX2_letSnow_37 hl (k := 0) rfl (nI_1 _) (by decide) rfl (fun ls hl => ?_)
          refine lv_goto (tgt := 2) hx hb dX2_letSnow_40 (by decide) ?_
          exact ih_n9_2_20 (i18 + 1) f19 (by omega) (by omega) _ _ ls (hP.sub [2, 0, 1] rfl) (hD.sub [2, 0, 1] (by decide) rfl) hS (lv_sub hl [0, 1, 2, 3] rfl)
        · refine lv_aload_n hx hb dX2_letSnow_18 rfl (lv_at hl 1 rfl) ?_
          refine va_get (D := D) (ci := 2) (v := .ref (ga 18)) (C := RX2) (T := TX2) (N := 13) hx hb hts is_letSnow_X2 hown hK hP 0 rfl rfl 2 (by decide) (hts (.fieldLink RX2 18 "SaltStreet$Ground" "snow" "[I") (List.mem_of_getElem? (i := 7) rfl)) (fun _ h9 => h9) rfl dX2_letSnow_19 ?_
          refine lv_iload_n hx hb dX2_letSnow_22 rfl (lv_at hl 0 rfl) ?_
          refine lv_bipush (v := 99) hx hb dX2_letSnow_23 (by decide) ?_
          refine lv_aload_n hx hb dX2_letSnow_25 rfl (lv_at hl 1 rfl) ?_
          refine va_get (D := D) (ci := 2) (v := .ref (ga 18)) (C := RX2) (T := TX2) (N := 13) hx hb hts is_letSnow_X2 hown hK hP 0 rfl rfl 2 (by decide) (hts (.fieldLink RX2 18 "SaltStreet$Ground" "snow" "[I") (List.mem_of_getElem? (i := 7) rfl)) (fun _ h9 => h9) rfl dX2_letSnow_26 ?_
          refine lv_iload_n hx hb dX2_letSnow_29 rfl (lv_at hl 0 rfl) ?_
          refine va_iald hx hb hK hP 1 0 (f := f19) rfl rfl (vp_in_nI (by omega) (by decide)) dX2_letSnow_30 ?_
          refine lv_topi (fun z24 _ => ?_)
          refine lv_iload_n hx hb dX2_letSnow_31 rfl (lv_at hl 3 rfl) ?_
          refine lv_iadd hx hb dX2_letSnow_32 ?_
          refine lv_topi (fun z25 _ => ?_)
          refine va_mmin hx hb (by rw [hml, hl.1]) hown (hts (.methodLink RX2 84 Lib.Math.min.name) (List.mem_of_getElem? (i := 8) rfl)) (hts (.static Lib.Math.min.name) (List.mem_of_getElem? (i := 9) rfl)) (hts (.initialized "java/lang/Math") (List.mem_of_getElem? (i := 10) rfl)) (hts (.code Lib.Math.min.name Lib.Math.min.code 2 (some .int)) (List.mem_of_getElem? (i := 11) rfl)) (Nat.le_of_ble_eq_true rfl) (Nat.le_of_ble_eq_true rfl) (Nat.le_of_ble_eq_true rfl) (Nat.le_of_ble_eq_true rfl) dX2_letSnow_33 ?_
          refine lv_topi (fun z26 _ => ?_)
          refine va_iast hx hb hK hP hD hS 1 0 (f := f19) rfl rfl (vp_in_nI (by omega) (by decide)) dX2_letSnow_36 (fun H locs hP hD hS => ?_)
          have hP : va_P D vwCl [(ga 2, .inr (2, [.ref (ga 16), .ref (ga 17), .ref (ga 18), .ref (ga 19), .ref (ga 20), .int ga_over, .int ga_day, .int ga_rained, .int ga_purse, .int ga_bought, .int ga_washed, .int ga_swept, .int ga_melted])), (ga 18, .inl (kc 0, 8, .inl (upd f19 ((nI i18) : Int32).toNatClampNeg z26))), (na 1, .inr (4, [.ref (na 4), .ref (na 5), .ref (na 6), .ref (na 7), .ref (na 8), .ref (na 9), .ref (na 10), .ref (na 11), .ref (na 12), .ref (na 13), .ref (na 14), .ref (na 15), .int (nI na_named), .int (nI na_houses), .int (nI na_quarrels), .int (nI na_cats), .int (nI na_grocers), .int na_gone, .int na_washes, .int na_goneCounts]))] H := hP
          have hD : va_D A [(ga 2, .inr (2, [.ref (ga 16), .ref (ga 17), .ref (ga 18), .ref (ga 19), .ref (ga 20), .int ga_over, .int ga_day, .int ga_rained, .int ga_purse, .int ga_bought, .int ga_washed, .int ga_swept, .int ga_melted])), (ga 18, .inl (kc 0, 8, .inl (upd f19 ((nI i18) : Int32).toNatClampNeg z26))), (na 1, .inr (4, [.ref (na 4), .ref (na 5), .ref (na 6), .ref (na 7), .ref (na 8), .ref (na 9), .ref (na 10), .ref (na 11), .ref (na 12), .ref (na 13), .ref (na 14), .ref (na 15), .int (nI na_named), .int (nI na_houses), .int (nI na_quarrels), .int (nI na_cats), .int (nI na_grocers), .int na_gone, .int na_washes, .int na_goneCounts]))] := hD
          generalize (upd f19 ((nI i18) : Int32).toNatClampNeg z26) = f27 at hP hD
          refine lv_iinc (v := (nI (i18 + 1))) (lv' := [(3, .int (nI (i18 + 1))), (0, .ref (ga 2)), (1, .ref (na 1)), (2, .int a0)]) hx hb dX2_letSnow_37 hl (k := 0) rfl (nI_1 _) (by decide) rfl (fun ls hl => ?_)
          refine lv_goto (tgt := 2) hx hb dX2_letSnow_40 (by decide) ?_
          exact ih_n9_2_20 (i18 + 1) f27 (by omega) (by omega) _ _ ls (hP.sub [2, 0, 1] rfl) (hD.sub [2, 0, 1] (by decide) rfl) hS (lv_sub hl [0, 1, 2, 3] rfl)
  exact loop_n9_2_20 (na_houses + 1) 0 ga_snow (by omega) (by omega) _ _ ls hP hD hS (lv_sub hl [0, 1, 2, 3] rfl)
theorem dX2_sendCats_0 : decode cX2_sendCats 0 = .ok (.iconst 0, 1) := by decide +kernel
theorem dX2_sendCats_1 : decode cX2_sendCats 1 = .ok (.istore_n 2, 1) := by decide +kernel
theorem dX2_sendCats_2 : decode cX2_sendCats 2 = .ok (.iload_n 2, 1) := by decide +kernel
theorem dX2_sendCats_3 : decode cX2_sendCats 3 = .ok (.aload_n 1, 1) := by decide +kernel
theorem dX2_sendCats_4 : decode cX2_sendCats 4 = .ok (.getfield 113, 3) := by decide +kernel
theorem dX2_sendCats_7 : decode cX2_sendCats 7 = .ok (.if_icmp .ge 46, 3) := by decide +kernel
theorem dX2_sendCats_53 : decode cX2_sendCats 53 = .ok (.return_, 1) := by decide +kernel
theorem dX2_sendCats_10 : decode cX2_sendCats 10 = .ok (.aload_n 0, 1) := by decide +kernel
theorem dX2_sendCats_11 : decode cX2_sendCats 11 = .ok (.getfield 18, 3) := by decide +kernel
theorem dX2_sendCats_14 : decode cX2_sendCats 14 = .ok (.aload_n 1, 1) := by decide +kernel
theorem dX2_sendCats_15 : decode cX2_sendCats 15 = .ok (.getfield 116, 3) := by decide +kernel
theorem dX2_sendCats_18 : decode cX2_sendCats 18 = .ok (.iload_n 2, 1) := by decide +kernel
theorem dX2_sendCats_19 : decode cX2_sendCats 19 = .ok (.iaload, 1) := by decide +kernel
theorem dX2_sendCats_20 : decode cX2_sendCats 20 = .ok (.iaload, 1) := by decide +kernel
theorem dX2_sendCats_21 : decode cX2_sendCats 21 = .ok (.ifCond .ne 26, 3) := by decide +kernel
theorem dX2_sendCats_47 : decode cX2_sendCats 47 = .ok (.iinc 2 1, 3) := by decide +kernel
theorem dX2_sendCats_50 : decode cX2_sendCats 50 = .ok (.goto (-48), 3) := by decide +kernel
theorem dX2_sendCats_24 : decode cX2_sendCats 24 = .ok (.aload_n 0, 1) := by decide +kernel
theorem dX2_sendCats_25 : decode cX2_sendCats 25 = .ok (.aload_n 1, 1) := by decide +kernel
theorem dX2_sendCats_26 : decode cX2_sendCats 26 = .ok (.getfield 116, 3) := by decide +kernel
theorem dX2_sendCats_29 : decode cX2_sendCats 29 = .ok (.iload_n 2, 1) := by decide +kernel
theorem dX2_sendCats_30 : decode cX2_sendCats 30 = .ok (.iaload, 1) := by decide +kernel
theorem dX2_sendCats_31 : decode cX2_sendCats 31 = .ok (.aload_n 1, 1) := by decide +kernel
theorem dX2_sendCats_32 : decode cX2_sendCats 32 = .ok (.getfield 119, 3) := by decide +kernel
theorem dX2_sendCats_35 : decode cX2_sendCats 35 = .ok (.iload_n 2, 1) := by decide +kernel
theorem dX2_sendCats_36 : decode cX2_sendCats 36 = .ok (.iaload, 1) := by decide +kernel
theorem dX2_sendCats_37 : decode cX2_sendCats 37 = .ok (.aload_n 1, 1) := by decide +kernel
theorem dX2_sendCats_38 : decode cX2_sendCats 38 = .ok (.getfield 122, 3) := by decide +kernel
theorem dX2_sendCats_41 : decode cX2_sendCats 41 = .ok (.iload_n 2, 1) := by decide +kernel
theorem dX2_sendCats_42 : decode cX2_sendCats 42 = .ok (.iaload, 1) := by decide +kernel
theorem dX2_sendCats_43 : decode cX2_sendCats 43 = .ok (.invokevirtual 125, 3) := by decide +kernel
theorem dX2_sendCats_46 : decode cX2_sendCats 46 = .ok (.pop, 1) := by decide +kernel
def vds_sendCats : List Cond := [.code yX2_sendCats cX2_sendCats 3 none, .fieldLink RX2 18 "SaltStreet$Ground" "snow" "[I", .methodLink RX2 125 yX2_carry, .code yX2_carry cX2_carry 6 (some .int), .fieldLink RX2 9 "SaltStreet$Ground" "salt" "[I", .methodLink RX2 84 Lib.Math.min.name, .static Lib.Math.min.name, .initialized "java/lang/Math", .code Lib.Math.min.name Lib.Math.min.code 2 (some .int), .fieldLink RX2 15 "SaltStreet$Ground" "sugar" "[I", .instanceMethod yX2_carry, .selects RX2 yX2_carry yX2_carry, .initialized RX2]
def vs_sendCats : List Cond := vds_sendCats ++ (wsX40 ++ (wsX20 ++ ([] : List Cond)))
theorem is_sendCats_X4 : ∀ w ∈ wsX40, w ∈ vs_sendCats := fun _ h => List.mem_append_right _ (List.mem_append_left _ h)
theorem is_sendCats_X2 : ∀ w ∈ wsX20, w ∈ vs_sendCats := fun _ h => List.mem_append_right _ (List.mem_append_right _ (List.mem_append_left _ h))
set_option maxRecDepth 20000 in
theorem gs_sendCats_125_s_carry : GoodIn vs_sendCats (wsV RX2 125 RX2 yX2_carry vs_carry) := (goodIn_app (goodIn_r _ [2, 10, 11, 12] rfl (by decide +kernel)) (goodIn_app (goodIn_r vds_carry [3, 4, 5, 6, 7, 8, 9] rfl (by decide +kernel)) (goodIn_app (goodIn_sub is_sendCats_X2 gdX2) goodIn_nil)))
set_option maxHeartbeats 4000000 in
set_option maxRecDepth 100000 in
theorem s_sendCats (l : Launch) (D : va_G) (kc : Nat → ClassId) (sz : Nat) (na : Nat → Nat) (ga : Nat → Nat) (na_named : Nat) (na_houses : Nat) (na_quarrels : Nat) (na_cats : Nat) (na_grocers : Nat) (na_gone : Int32) (na_washes : Int32) (na_goneCounts : Int32) (na_from : Nat → Int32) (na_to : Nat → Int32) (na_takes : Nat → Int32) (ga_over : Int32) (ga_day : Int32) (ga_rained : Int32) (ga_purse : Int32) (ga_bought : Int32) (ga_washed : Int32) (ga_swept : Int32) (ga_melted : Int32) (ga_salt : Nat → Int32) (ga_sugar : Nat → Int32) (ga_snow : Nat → Int32) (h_na_named : na_named ≤ 24) (h_na_houses : na_houses ≤ 8) (h_na_quarrels : na_quarrels ≤ 8) (h_na_cats : na_cats ≤ 4) (h_na_grocers : na_grocers ≤ 4) (h_na_goneCounts : na_goneCounts = 0 ∨ na_goneCounts = 1) (h_na_from : R8 na_from) (h_na_to : R8 na_to) (h_ga_rained : ga_rained = 0 ∨ ga_rained = 1) : Met l yX2_sendCats vs_sendCats ({ frames := 2, cells := 0, slots := 0, locals := 38 }) (va_Pc [.ref (ga 2), .ref (na 1)] (wPre D kc [(na 1, .inr (4, [.ref (na 4), .ref (na 5), .ref (na 6), .ref (na 7), .ref (na 8), .ref (na 9), .ref (na 10), .ref (na 11), .ref (na 12), .ref (na 13), .ref (na 14), .ref (na 15), .int (nI na_named), .int (nI na_houses), .int (nI na_quarrels), .int (nI na_cats), .int (nI na_grocers), .int na_gone, .int na_washes, .int na_goneCounts])), (na 11, .inl (kc 0, 4, .inl na_from)), (na 12, .inl (kc 0, 4, .inl na_to)), (na 13, .inl (kc 0, 4, .inl na_takes)), (ga 2, .inr (2, [.ref (ga 16), .ref (ga 17), .ref (ga 18), .ref (ga 19), .ref (ga 20), .int ga_over, .int ga_day, .int ga_rained, .int ga_purse, .int ga_bought, .int ga_washed, .int ga_swept, .int ga_melted])), (ga 16, .inl (kc 0, 8, .inl ga_salt)), (ga 17, .inl (kc 0, 8, .inl ga_sugar)), (ga 18, .inl (kc 0, 8, .inl ga_snow))] sz)) (va_Qv (fun (_ : Unit) => True) (fun (_ : Unit) (t9 : State) => ∃ ga_salt_n : Nat → Int32, ∃ ga_sugar_n : Nat → Int32, va_P D vwCl [(na 1, .inr (4, [.ref (na 4), .ref (na 5), .ref (na 6), .ref (na 7), .ref (na 8), .ref (na 9), .ref (na 10), .ref (na 11), .ref (na 12), .ref (na 13), .ref (na 14), .ref (na 15), .int (nI na_named), .int (nI na_houses), .int (nI na_quarrels), .int (nI na_cats), .int (nI na_grocers), .int na_gone, .int na_washes, .int na_goneCounts])), (na 11, .inl (kc 0, 4, .inl na_from)), (na 12, .inl (kc 0, 4, .inl na_to)), (na 13, .inl (kc 0, 4, .inl na_takes)), (ga 2, .inr (2, [.ref (ga 16), .ref (ga 17), .ref (ga 18), .ref (ga 19), .ref (ga 20), .int ga_over, .int ga_day, .int ga_rained, .int ga_purse, .int ga_bought, .int ga_washed, .int ga_swept, .int ga_melted])), (ga 16, .inl (kc 0, 8, .inl ga_salt_n)), (ga 17, .inl (kc 0, 8, .inl ga_sugar_n)), (ga 18, .inl (kc 0, 8, .inl ga_snow))] t9.heap ∧ va_D (va_A [(na 1, .inr (4, [.ref (na 4), .ref (na 5), .ref (na 6), .ref (na 7), .ref (na 8), .ref (na 9), .ref (na 10), .ref (na 11), .ref (na 12), .ref (na 13), .ref (na 14), .ref (na 15), .int (nI na_named), .int (nI na_houses), .int (nI na_quarrels), .int (nI na_cats), .int (nI na_grocers), .int na_gone, .int na_washes, .int na_goneCounts])), (na 11, .inl (kc 0, 4, .inl na_from)), (na 12, .inl (kc 0, 4, .inl na_to)), (na 13, .inl (kc 0, 4, .inl na_takes)), (ga 2, .inr (2, [.ref (ga 16), .ref (ga 17), .ref (ga 18), .ref (ga 19), .ref (ga 20), .int ga_over, .int ga_day, .int ga_rained, .int ga_purse, .int ga_bought, .int ga_washed, .int ga_swept, .int ga_melted])), (ga 16, .inl (kc 0, 8, .inl ga_salt)), (ga 17, .inl (kc 0, 8, .inl ga_sugar)), (ga 18, .inl (kc 0, 8, .inl ga_snow))] sz) [(na 1, .inr (4, [.ref (na 4), .ref (na 5), .ref (na 6), .ref (na 7), .ref (na 8), .ref (na 9), .ref (na 10), .ref (na 11), .ref (na 12), .ref (na 13), .ref (na 14), .ref (na 15), .int (nI na_named), .int (nI na_houses), .int (nI na_quarrels), .int (nI na_cats), .int (nI na_grocers), .int na_gone, .int na_washes, .int na_goneCounts])), (na 11, .inl (kc 0, 4, .inl na_from)), (na 12, .inl (kc 0, 4, .inl na_to)), (na 13, .inl (kc 0, 4, .inl na_takes)), (ga 2, .inr (2, [.ref (ga 16), .ref (ga 17), .ref (ga 18), .ref (ga 19), .ref (ga 20), .int ga_over, .int ga_day, .int ga_rained, .int ga_purse, .int ga_bought, .int ga_washed, .int ga_swept, .int ga_melted])), (ga 16, .inl (kc 0, 8, .inl ga_salt_n)), (ga 17, .inl (kc 0, 8, .inl ga_sugar_n)), (ga 18, .inl (kc 0, 8, .inl ga_snow))]) (va_A [(na 1, .inr (4, [.ref (na 4), .ref (na 5), .ref (na 6), .ref (na 7), .ref (na 8), .ref (na 9), .ref (na 10), .ref (na 11), .ref (na 12), .ref (na 13), .ref (na 14), .ref (na 15), .int (nI na_named), .int (nI na_houses), .int (nI na_quarrels), .int (nI na_cats), .int (nI na_grocers), .int na_gone, .int na_washes, .int na_goneCounts])), (na 11, .inl (kc 0, 4, .inl na_from)), (na 12, .inl (kc 0, 4, .inl na_to)), (na 13, .inl (kc 0, 4, .inl na_takes)), (ga 2, .inr (2, [.ref (ga 16), .ref (ga 17), .ref (ga 18), .ref (ga 19), .ref (ga 20), .int ga_over, .int ga_day, .int ga_rained, .int ga_purse, .int ga_bought, .int ga_washed, .int ga_swept, .int ga_melted])), (ga 16, .inl (kc 0, 8, .inl ga_salt)), (ga 17, .inl (kc 0, 8, .inl ga_sugar)), (ga 18, .inl (kc 0, 8, .inl ga_snow))] sz)) 0 0 (va_A [(na 1, .inr (4, [.ref (na 4), .ref (na 5), .ref (na 6), .ref (na 7), .ref (na 8), .ref (na 9), .ref (na 10), .ref (na 11), .ref (na 12), .ref (na 13), .ref (na 14), .ref (na 15), .int (nI na_named), .int (nI na_houses), .int (nI na_quarrels), .int (nI na_cats), .int (nI na_grocers), .int na_gone, .int na_washes, .int na_goneCounts])), (na 11, .inl (kc 0, 4, .inl na_from)), (na 12, .inl (kc 0, 4, .inl na_to)), (na 13, .inl (kc 0, 4, .inl na_takes)), (ga 2, .inr (2, [.ref (ga 16), .ref (ga 17), .ref (ga 18), .ref (ga 19), .ref (ga 20), .int ga_over, .int ga_day, .int ga_rained, .int ga_purse, .int ga_bought, .int ga_washed, .int ga_swept, .int ga_melted])), (ga 16, .inl (kc 0, 8, .inl ga_salt)), (ga 17, .inl (kc 0, 8, .inl ga_sugar)), (ga 18, .inl (kc 0, 8, .inl ga_snow))] sz) := by
  refine Met.ofW (cc := cX2_sendCats) (maxL := 3) (ret := none) (by decide) rfl ?_
  intro p e s m args below meth c s₁ B hml hv
  obtain ⟨rfl, hsz, hP, hE, hD0⟩ := hv
  have hx := B.exec
  have hb := B.bytes
  have hr := B.returns
  have hts := atoms_spec (ws := vs_sendCats) B.pre
  have hown : s.vm.findClass RX2 = some m.cls := findClass_of_methodNamed B.named
  have hlocks := B.notSynchronized
  subst hsz
  have hD := hD0.self (sz := s.heap.size)
  generalize hAe : va_A [(na 1, .inr (4, [.ref (na 4), .ref (na 5), .ref (na 6), .ref (na 7), .ref (na 8), .ref (na 9), .ref (na 10), .ref (na 11), .ref (na 12), .ref (na 13), .ref (na 14), .ref (na 15), .int (nI na_named), .int (nI na_houses), .int (nI na_quarrels), .int (nI na_cats), .int (nI na_grocers), .int na_gone, .int na_washes, .int na_goneCounts])), (na 11, .inl (kc 0, 4, .inl na_from)), (na 12, .inl (kc 0, 4, .inl na_to)), (na 13, .inl (kc 0, 4, .inl na_takes)), (ga 2, .inr (2, [.ref (ga 16), .ref (ga 17), .ref (ga 18), .ref (ga 19), .ref (ga 20), .int ga_over, .int ga_day, .int ga_rained, .int ga_purse, .int ga_bought, .int ga_washed, .int ga_swept, .int ga_melted])), (ga 16, .inl (kc 0, 8, .inl ga_salt)), (ga 17, .inl (kc 0, 8, .inl ga_sugar)), (ga 18, .inl (kc 0, 8, .inl ga_snow))] s.heap.size = A at hD ⊢
  have hA : ∀ q : Nat, s.heap.size ≤ q → A q := fun q h => by rw [← hAe]; exact Or.inr h
  have hS : va_S A s.heap s.heap [] := va_S.rf
  have hK := hE.1
  have hP : va_P D vwCl [(na 1, .inr (4, [.ref (na 4), .ref (na 5), .ref (na 6), .ref (na 7), .ref (na 8), .ref (na 9), .ref (na 10), .ref (na 11), .ref (na 12), .ref (na 13), .ref (na 14), .ref (na 15), .int (nI na_named), .int (nI na_houses), .int (nI na_quarrels), .int (nI na_cats), .int (nI na_grocers), .int na_gone, .int na_washes, .int na_goneCounts])), (na 11, .inl (kc 0, 4, .inl na_from)), (na 12, .inl (kc 0, 4, .inl na_to)), (na 13, .inl (kc 0, 4, .inl na_takes)), (ga 2, .inr (2, [.ref (ga 16), .ref (ga 17), .ref (ga 18), .ref (ga 19), .ref (ga 20), .int ga_over, .int ga_day, .int ga_rained, .int ga_purse, .int ga_bought, .int ga_washed, .int ga_swept, .int ga_melted])), (ga 16, .inl (kc 0, 8, .inl ga_salt)), (ga 17, .inl (kc 0, 8, .inl ga_sugar)), (ga 18, .inl (kc 0, 8, .inl ga_snow))] s.heap := hP
  have hl := lv_entry ([.ref (ga 2), .ref (na 1)]) (n := 3) (Nat.le_of_ble_eq_true rfl)
  rw [lg_entry_eq]
  generalize (lg_sl ([.ref (ga 2), .ref (na 1)]) ++ List.replicate (3 - (lg_sl ([.ref (ga 2), .ref (na 1)])).length) Slot.unset).toArray = ls at hl ⊢
  have hl : lv_has ls 3 [(0, .ref (ga 2)), (1, .ref (na 1))] := hl
  refine lv_iconst (v := 0) hx hb dX2_sendCats_0 (by decide) ?_
  refine lv_istore_n (lv' := [(2, .int 0), (0, .ref (ga 2)), (1, .ref (na 1))]) hx hb dX2_sendCats_1 rfl hl (by decide) rfl (fun ls hl => ?_)
  have loop_n9_2_28 : ∀ (n9_2_28 : Nat) (i25 : Nat) (f26 : Nat → Int32) (f27 : Nat → Int32), i25 ≤ na_cats → na_cats < i25 + n9_2_28 → ∀ (H : Heap) (locs : List Loc) (ls : Array Slot), va_P D vwCl [(na 1, .inr (4, [.ref (na 4), .ref (na 5), .ref (na 6), .ref (na 7), .ref (na 8), .ref (na 9), .ref (na 10), .ref (na 11), .ref (na 12), .ref (na 13), .ref (na 14), .ref (na 15), .int (nI na_named), .int (nI na_houses), .int (nI na_quarrels), .int (nI na_cats), .int (nI na_grocers), .int na_gone, .int na_washes, .int na_goneCounts])), (na 11, .inl (kc 0, 4, .inl na_from)), (na 12, .inl (kc 0, 4, .inl na_to)), (na 13, .inl (kc 0, 4, .inl na_takes)), (ga 2, .inr (2, [.ref (ga 16), .ref (ga 17), .ref (ga 18), .ref (ga 19), .ref (ga 20), .int ga_over, .int ga_day, .int ga_rained, .int ga_purse, .int ga_bought, .int ga_washed, .int ga_swept, .int ga_melted])), (ga 16, .inl (kc 0, 8, .inl f26)), (ga 17, .inl (kc 0, 8, .inl f27)), (ga 18, .inl (kc 0, 8, .inl ga_snow))] H → va_D A [(na 1, .inr (4, [.ref (na 4), .ref (na 5), .ref (na 6), .ref (na 7), .ref (na 8), .ref (na 9), .ref (na 10), .ref (na 11), .ref (na 12), .ref (na 13), .ref (na 14), .ref (na 15), .int (nI na_named), .int (nI na_houses), .int (nI na_quarrels), .int (nI na_cats), .int (nI na_grocers), .int na_gone, .int na_washes, .int na_goneCounts])), (na 11, .inl (kc 0, 4, .inl na_from)), (na 12, .inl (kc 0, 4, .inl na_to)), (na 13, .inl (kc 0, 4, .inl na_takes)), (ga 2, .inr (2, [.ref (ga 16), .ref (ga 17), .ref (ga 18), .ref (ga 19), .ref (ga 20), .int ga_over, .int ga_day, .int ga_rained, .int ga_purse, .int ga_bought, .int ga_washed, .int ga_swept, .int ga_melted])), (ga 16, .inl (kc 0, 8, .inl f26)), (ga 17, .inl (kc 0, 8, .inl f27)), (ga 18, .inl (kc 0, 8, .inl ga_snow))] → va_S A s.heap H locs → lv_has ls 3 [(2, .int (nI i25)), (0, .ref (ga 2)), (1, .ref (na 1))] → W p l e (headSpec vs_sendCats ({ frames := 2, cells := 0, slots := 0, locals := 38 })).room s m [.ref (ga 2), .ref (na 1)].toArray below meth c H locs 0 0 (MQ below (va_Qv (fun (_ : Unit) => True) (fun (_ : Unit) (t9 : State) => ∃ ga_salt_n : Nat → Int32, ∃ ga_sugar_n : Nat → Int32, va_P D vwCl [(na 1, .inr (4, [.ref (na 4), .ref (na 5), .ref (na 6), .ref (na 7), .ref (na 8), .ref (na 9), .ref (na 10), .ref (na 11), .ref (na 12), .ref (na 13), .ref (na 14), .ref (na 15), .int (nI na_named), .int (nI na_houses), .int (nI na_quarrels), .int (nI na_cats), .int (nI na_grocers), .int na_gone, .int na_washes, .int na_goneCounts])), (na 11, .inl (kc 0, 4, .inl na_from)), (na 12, .inl (kc 0, 4, .inl na_to)), (na 13, .inl (kc 0, 4, .inl na_takes)), (ga 2, .inr (2, [.ref (ga 16), .ref (ga 17), .ref (ga 18), .ref (ga 19), .ref (ga 20), .int ga_over, .int ga_day, .int ga_rained, .int ga_purse, .int ga_bought, .int ga_washed, .int ga_swept, .int ga_melted])), (ga 16, .inl (kc 0, 8, .inl ga_salt_n)), (ga 17, .inl (kc 0, 8, .inl ga_sugar_n)), (ga 18, .inl (kc 0, 8, .inl ga_snow))] t9.heap ∧ va_D A [(na 1, .inr (4, [.ref (na 4), .ref (na 5), .ref (na 6), .ref (na 7), .ref (na 8), .ref (na 9), .ref (na 10), .ref (na 11), .ref (na 12), .ref (na 13), .ref (na 14), .ref (na 15), .int (nI na_named), .int (nI na_houses), .int (nI na_quarrels), .int (nI na_cats), .int (nI na_grocers), .int na_gone, .int na_washes, .int na_goneCounts])), (na 11, .inl (kc 0, 4, .inl na_from)), (na 12, .inl (kc 0, 4, .inl na_to)), (na 13, .inl (kc 0, 4, .inl na_takes)), (ga 2, .inr (2, [.ref (ga 16), .ref (ga 17), .ref (ga 18), .ref (ga 19), .ref (ga 20), .int ga_over, .int ga_day, .int ga_rained, .int ga_purse, .int ga_bought, .int ga_washed, .int ga_swept, .int ga_melted])), (ga 16, .inl (kc 0, 8, .inl ga_salt_n)), (ga 17, .inl (kc 0, 8, .inl ga_sugar_n)), (ga 18, .inl (kc 0, 8, .inl ga_snow))]) A) [.ref (ga 2), .ref (na 1)].toArray s 0 0 A) (F0 m 2 ls []) := by
    intro n9_2_28
    induction n9_2_28 with
    | zero => intro i25 f26 f27  h1 h2; exact absurd h2 (by omega)
    | succ n9_2_28 ih_n9_2_28 =>
      intro i25 f26 f27  h1_n9_2_28 h2_n9_2_28 H locs ls hP hD hS hl
      refine lv_iload_n hx hb dX2_sendCats_2 rfl (lv_at hl 0 rfl) ?_
      refine lv_aload_n hx hb dX2_sendCats_3 rfl (lv_at hl 2 rfl) ?_
      refine va_getN (D := D) (ci := 4) (v := .int (nI na_cats)) (C := RX4) (T := TX4) (N := 20) hx hb hts is_sendCats_X4 hown hK hP 0 rfl rfl 15 (by decide) (hE.nw 44 rfl) (fun _ h9 => h9) rfl dX2_sendCats_4 ?_
      refine lv_icmp_ge (tgt := 53) hx hb dX2_sendCats_7 (by decide) (fun c29 => ?_) (fun c29 => ?_)
      · have nc29 := (nI_leI (a := na_cats) (b := i25) (by omega) (by omega)).mp c29
        have hP9 := hP.sub (ws' := [(na 1, .inr (4, [.ref (na 4), .ref (na 5), .ref (na 6), .ref (na 7), .ref (na 8), .ref (na 9), .ref (na 10), .ref (na 11), .ref (na 12), .ref (na 13), .ref (na 14), .ref (na 15), .int (nI na_named), .int (nI na_houses), .int (nI na_quarrels), .int (nI na_cats), .int (nI na_grocers), .int na_gone, .int na_washes, .int na_goneCounts])), (na 11, .inl (kc 0, 4, .inl na_from)), (na 12, .inl (kc 0, 4, .inl na_to)), (na 13, .inl (kc 0, 4, .inl na_takes)), (ga 2, .inr (2, [.ref (ga 16), .ref (ga 17), .ref (ga 18), .ref (ga 19), .ref (ga 20), .int ga_over, .int ga_day, .int ga_rained, .int ga_purse, .int ga_bought, .int ga_washed, .int ga_swept, .int ga_melted])), (ga 16, .inl (kc 0, 8, .inl f26)), (ga 17, .inl (kc 0, 8, .inl f27)), (ga 18, .inl (kc 0, 8, .inl ga_snow))]) [0, 1, 2, 3, 4, 5, 6, 7] rfl
        have hD9 := hD.sub (ws' := [(na 1, .inr (4, [.ref (na 4), .ref (na 5), .ref (na 6), .ref (na 7), .ref (na 8), .ref (na 9), .ref (na 10), .ref (na 11), .ref (na 12), .ref (na 13), .ref (na 14), .ref (na 15), .int (nI na_named), .int (nI na_houses), .int (nI na_quarrels), .int (nI na_cats), .int (nI na_grocers), .int na_gone, .int na_washes, .int na_goneCounts])), (na 11, .inl (kc 0, 4, .inl na_from)), (na 12, .inl (kc 0, 4, .inl na_to)), (na 13, .inl (kc 0, 4, .inl na_takes)), (ga 2, .inr (2, [.ref (ga 16), .ref (ga 17), .ref (ga 18), .ref (ga 19), .ref (ga 20), .int ga_over, .int ga_day, .int ga_rained, .int ga_purse, .int ga_bought, .int ga_washed, .int ga_swept, .int ga_melted])), (ga 16, .inl (kc 0, 8, .inl f26)), (ga 17, .inl (kc 0, 8, .inl f27)), (ga 18, .inl (kc 0, 8, .inl ga_snow))]) [0, 1, 2, 3, 4, 5, 6, 7] (by decide) rfl
        exact W.vret hx hb hr (fun t9 ht hW => ⟨⟨(), rfl, trivial, f26, f27, by rw [ht]; exact hP9, hD9⟩, hS.F ht⟩) hS.2.2 dX2_sendCats_53
      · have nc29 := Nat.not_le.mp (fun q => c29 ((nI_leI (a := na_cats) (b := i25) (by omega) (by omega)).mpr q))
        refine lv_aload_n hx hb dX2_sendCats_10 rfl (lv_at hl 1 rfl) ?_
        refine va_get (D := D) (ci := 2) (v := .ref (ga 18)) (C := RX2) (T := TX2) (N := 13) hx hb hts is_sendCats_X2 hown hK hP 4 rfl rfl 2 (by decide) (hts (.fieldLink RX2 18 "SaltStreet$Ground" "snow" "[I") (List.mem_of_getElem? (i := 1) rfl)) (fun _ h9 => h9) rfl dX2_sendCats_11 ?_
        refine lv_aload_n hx hb dX2_sendCats_14 rfl (lv_at hl 2 rfl) ?_
        refine va_getN (D := D) (ci := 4) (v := .ref (na 11)) (C := RX4) (T := TX4) (N := 20) hx hb hts is_sendCats_X4 hown hK hP 0 rfl rfl 7 (by decide) (hE.nw 17 rfl) (fun _ h9 => h9) rfl dX2_sendCats_15 ?_
        refine lv_iload_n hx hb dX2_sendCats_18 rfl (lv_at hl 0 rfl) ?_
        refine va_iald hx hb hK hP 1 0 (f := na_from) rfl rfl (vp_in_nI (by omega) (by decide)) dX2_sendCats_19 ?_
        obtain ⟨k30, h_k30, e_k30⟩ := h_na_from ((nI i25) : Int32).toNatClampNeg
        refine lv_ci (y := nI k30) e_k30 ?_
        refine va_iald hx hb hK hP 7 0 (f := ga_snow) rfl rfl (vp_in_nI (by omega) (by decide)) dX2_sendCats_20 ?_
        refine lv_topi (fun z31 _ => ?_)
        refine lv_if_ne (tgt := 47) hx hb dX2_sendCats_21 (by decide) (fun c32 => ?_) (fun c32 => ?_)
        · refine lv_iinc (v := (nI (i25 + 1))) (lv' := [(2, .int (nI (i25 + 1))), (0, .ref (ga 2)), (1, .ref (na 1))]) hx hb dX2_sendCats_47 hl (k := 0) rfl (nI_1 _) (by decide) rfl (fun ls hl => ?_)
          refine lv_goto (tgt := 2) hx hb dX2_sendCats_50 (by decide) ?_
          exact ih_n9_2_28 (i25 + 1) f26 f27 (by omega) (by omega) _ _ ls hP hD hS (lv_sub hl [0, 1, 2] rfl)
        · refine lv_aload_n hx hb dX2_sendCats_24 rfl (lv_at hl 1 rfl) ?_
          refine lv_aload_n hx hb dX2_sendCats_25 rfl (lv_at hl 2 rfl) ?_
          refine va_getN (D := D) (ci := 4) (v := .ref (na 11)) (C := RX4) (T := TX4) (N := 20) hx hb hts is_sendCats_X4 hown hK hP 0 rfl rfl 7 (by decide) (hE.nw 17 rfl) (fun _ h9 => h9) rfl dX2_sendCats_26 ?_
          refine lv_iload_n hx hb dX2_sendCats_29 rfl (lv_at hl 0 rfl) ?_
          refine va_iald hx hb hK hP 1 0 (f := na_from) rfl rfl (vp_in_nI (by omega) (by decide)) dX2_sendCats_30 ?_
          obtain ⟨k33, h_k33, e_k33⟩ := h_na_from ((nI i25) : Int32).toNatClampNeg
          refine lv_ci (y := nI k33) e_k33 ?_
          refine lv_aload_n hx hb dX2_sendCats_31 rfl (lv_at hl 2 rfl) ?_
          refine va_getN (D := D) (ci := 4) (v := .ref (na 12)) (C := RX4) (T := TX4) (N := 20) hx hb hts is_sendCats_X4 hown hK hP 0 rfl rfl 8 (by decide) (hE.nw 20 rfl) (fun _ h9 => h9) rfl dX2_sendCats_32 ?_
          refine lv_iload_n hx hb dX2_sendCats_35 rfl (lv_at hl 0 rfl) ?_
          refine va_iald hx hb hK hP 2 0 (f := na_to) rfl rfl (vp_in_nI (by omega) (by decide)) dX2_sendCats_36 ?_
          obtain ⟨k34, h_k34, e_k34⟩ := h_na_to ((nI i25) : Int32).toNatClampNeg
          refine lv_ci (y := nI k34) e_k34 ?_
          refine lv_aload_n hx hb dX2_sendCats_37 rfl (lv_at hl 2 rfl) ?_
          refine va_getN (D := D) (ci := 4) (v := .ref (na 13)) (C := RX4) (T := TX4) (N := 20) hx hb hts is_sendCats_X4 hown hK hP 0 rfl rfl 9 (by decide) (hE.nw 23 rfl) (fun _ h9 => h9) rfl dX2_sendCats_38 ?_
          refine lv_iload_n hx hb dX2_sendCats_41 rfl (lv_at hl 0 rfl) ?_
          refine va_iald hx hb hK hP 3 0 (f := na_takes) rfl rfl (vp_in_nI (by omega) (by decide)) dX2_sendCats_42 ?_
          refine lv_topi (fun z35 _ => ?_)
          have hPc := hP.sub (ws' := [(ga 2, .inr (2, [.ref (ga 16), .ref (ga 17), .ref (ga 18), .ref (ga 19), .ref (ga 20), .int ga_over, .int ga_day, .int ga_rained, .int ga_purse, .int ga_bought, .int ga_washed, .int ga_swept, .int ga_melted])), (ga 16, .inl (kc 0, 8, .inl f26)), (ga 17, .inl (kc 0, 8, .inl f27))]) [4, 5, 6] rfl
          have hDc := hD.sub (ws' := [(ga 2, .inr (2, [.ref (ga 16), .ref (ga 17), .ref (ga 18), .ref (ga 19), .ref (ga 20), .int ga_over, .int ga_day, .int ga_rained, .int ga_purse, .int ga_bought, .int ga_washed, .int ga_swept, .int ga_melted])), (ga 16, .inl (kc 0, 8, .inl f26)), (ga 17, .inl (kc 0, 8, .inl f27))]) [4, 5, 6] (by decide) rfl
          have hFc := va_free (wc := [(ga 2, .inr (2, [.ref (ga 16), .ref (ga 17), .ref (ga 18), .ref (ga 19), .ref (ga 20), .int ga_over, .int ga_day, .int ga_rained, .int ga_purse, .int ga_bought, .int ga_washed, .int ga_swept, .int ga_melted])), (ga 16, .inl (kc 0, 8, .inl f26)), (ga 17, .inl (kc 0, 8, .inl f27))]) hD hS hA [4, 5, 6] rfl
          refine va_calli (va_runV (As := [.int (nI k33), .int (nI k34), .int z35]) (rest := []) ⟨hx, hb, hml, hown, hts⟩ (s_carry l D kc H.size ga ga_over ga_day ga_rained ga_purse ga_bought ga_washed ga_swept ga_melted f26 f27 k33 k34 z35 h_ga_rained (by omega) (by omega)) (cwV 3 hts gs_sendCats_125_s_carry rfl rfl rfl (by decide +kernel) ⟨Nat.le_of_ble_eq_true rfl, Nat.le_of_ble_eq_true rfl⟩) (preV_ok hPc hDc hE (ci := 2) (q0 := 0) rfl rfl) rfl rfl hl.1 rfl (lv_room (Nat.le_of_ble_eq_true rfl)) dX2_sendCats_43 ⟨Nat.le_of_ble_eq_true rfl, Nat.le_of_ble_eq_true rfl⟩) hS (fun q _ h => hFc q h) hFc (fun r36 u9 t9 H locs ht hvm hw hB hz1 hk1 hS => ?_)
          obtain ⟨f37, f38, hP1, hD1⟩ := hB
          rw [ht] at hP1
          obtain ⟨hP, hD⟩ := va_join (wr := [(na 1, .inr (4, [.ref (na 4), .ref (na 5), .ref (na 6), .ref (na 7), .ref (na 8), .ref (na 9), .ref (na 10), .ref (na 11), .ref (na 12), .ref (na 13), .ref (na 14), .ref (na 15), .int (nI na_named), .int (nI na_houses), .int (nI na_quarrels), .int (nI na_cats), .int (nI na_grocers), .int na_gone, .int na_washes, .int na_goneCounts])), (na 11, .inl (kc 0, 4, .inl na_from)), (na 12, .inl (kc 0, 4, .inl na_to)), (na 13, .inl (kc 0, 4, .inl na_takes)), (ga 18, .inl (kc 0, 8, .inl ga_snow))]) (w1 := [(ga 2, .inr (2, [.ref (ga 16), .ref (ga 17), .ref (ga 18), .ref (ga 19), .ref (ga 20), .int ga_over, .int ga_day, .int ga_rained, .int ga_purse, .int ga_bought, .int ga_washed, .int ga_swept, .int ga_melted])), (ga 16, .inl (kc 0, 8, .inl f37)), (ga 17, .inl (kc 0, 8, .inl f38))]) hP hD [4, 5, 6] [0, 1, 2, 3, 7] rfl rfl (by decide) (by decide) hk1 hFc hP1 hD1
          have hP : va_P D vwCl [(na 1, .inr (4, [.ref (na 4), .ref (na 5), .ref (na 6), .ref (na 7), .ref (na 8), .ref (na 9), .ref (na 10), .ref (na 11), .ref (na 12), .ref (na 13), .ref (na 14), .ref (na 15), .int (nI na_named), .int (nI na_houses), .int (nI na_quarrels), .int (nI na_cats), .int (nI na_grocers), .int na_gone, .int na_washes, .int na_goneCounts])), (na 11, .inl (kc 0, 4, .inl na_from)), (na 12, .inl (kc 0, 4, .inl na_to)), (na 13, .inl (kc 0, 4, .inl na_takes)), (ga 18, .inl (kc 0, 8, .inl ga_snow)), (ga 2, .inr (2, [.ref (ga 16), .ref (ga 17), .ref (ga 18), .ref (ga 19), .ref (ga 20), .int ga_over, .int ga_day, .int ga_rained, .int ga_purse, .int ga_bought, .int ga_washed, .int ga_swept, .int ga_melted])), (ga 16, .inl (kc 0, 8, .inl f37)), (ga 17, .inl (kc 0, 8, .inl f38))] H := hP
          have hD : va_D A [(na 1, .inr (4, [.ref (na 4), .ref (na 5), .ref (na 6), .ref (na 7), .ref (na 8), .ref (na 9), .ref (na 10), .ref (na 11), .ref (na 12), .ref (na 13), .ref (na 14), .ref (na 15), .int (nI na_named), .int (nI na_houses), .int (nI na_quarrels), .int (nI na_cats), .int (nI na_grocers), .int na_gone, .int na_washes, .int na_goneCounts])), (na 11, .inl (kc 0, 4, .inl na_from)), (na 12, .inl (kc 0, 4, .inl na_to)), (na 13, .inl (kc 0, 4, .inl na_takes)), (ga 18, .inl (kc 0, 8, .inl ga_snow)), (ga 2, .inr (2, [.ref (ga 16), .ref (ga 17), .ref (ga 18), .ref (ga 19), .ref (ga 20), .int ga_over, .int ga_day, .int ga_rained, .int ga_purse, .int ga_bought, .int ga_washed, .int ga_swept, .int ga_melted])), (ga 16, .inl (kc 0, 8, .inl f37)), (ga 17, .inl (kc 0, 8, .inl f38))] := hD
          refine lv_pop hx hb dX2_sendCats_46 rfl ?_
          refine lv_iinc (v := (nI (i25 + 1))) (lv' := [(2, .int (nI (i25 + 1))), (0, .ref (ga 2)), (1, .ref (na 1))]) hx hb dX2_sendCats_47 hl (k := 0) rfl (nI_1 _) (by decide) rfl (fun ls hl => ?_)
          refine lv_goto (tgt := 2) hx hb dX2_sendCats_50 (by decide) ?_
          exact ih_n9_2_28 (i25 + 1) f37 f38 (by omega) (by omega) _ _ ls (hP.sub [0, 1, 2, 3, 5, 6, 7, 4] rfl) (hD.sub [0, 1, 2, 3, 5, 6, 7, 4] (by decide) rfl) hS (lv_sub hl [0, 1, 2] rfl)
  exact loop_n9_2_28 (na_cats + 1) 0 ga_salt ga_sugar (by omega) (by omega) _ _ ls hP hD hS (lv_sub hl [0, 1, 2] rfl)
theorem dX2_meltSnow_0 : decode cX2_meltSnow 0 = .ok (.iconst 0, 1) := by decide +kernel
theorem dX2_meltSnow_1 : decode cX2_meltSnow 1 = .ok (.istore_n 2, 1) := by decide +kernel
theorem dX2_meltSnow_2 : decode cX2_meltSnow 2 = .ok (.iload_n 2, 1) := by decide +kernel
theorem dX2_meltSnow_3 : decode cX2_meltSnow 3 = .ok (.aload_n 1, 1) := by decide +kernel
theorem dX2_meltSnow_4 : decode cX2_meltSnow 4 = .ok (.getfield 65, 3) := by decide +kernel
theorem dX2_meltSnow_7 : decode cX2_meltSnow 7 = .ok (.if_icmp .ge 55, 3) := by decide +kernel
theorem dX2_meltSnow_62 : decode cX2_meltSnow 62 = .ok (.return_, 1) := by decide +kernel
theorem dX2_meltSnow_10 : decode cX2_meltSnow 10 = .ok (.aload_n 0, 1) := by decide +kernel
theorem dX2_meltSnow_11 : decode cX2_meltSnow 11 = .ok (.getfield 9, 3) := by decide +kernel
theorem dX2_meltSnow_14 : decode cX2_meltSnow 14 = .ok (.iload_n 2, 1) := by decide +kernel
theorem dX2_meltSnow_15 : decode cX2_meltSnow 15 = .ok (.iaload, 1) := by decide +kernel
theorem dX2_meltSnow_16 : decode cX2_meltSnow 16 = .ok (.aload_n 0, 1) := by decide +kernel
theorem dX2_meltSnow_17 : decode cX2_meltSnow 17 = .ok (.getfield 18, 3) := by decide +kernel
theorem dX2_meltSnow_20 : decode cX2_meltSnow 20 = .ok (.iload_n 2, 1) := by decide +kernel
theorem dX2_meltSnow_21 : decode cX2_meltSnow 21 = .ok (.iaload, 1) := by decide +kernel
theorem dX2_meltSnow_22 : decode cX2_meltSnow 22 = .ok (.invokestatic 84, 3) := by decide +kernel
theorem dX2_meltSnow_25 : decode cX2_meltSnow 25 = .ok (.istore_n 3, 1) := by decide +kernel
theorem dX2_meltSnow_26 : decode cX2_meltSnow 26 = .ok (.aload_n 0, 1) := by decide +kernel
theorem dX2_meltSnow_27 : decode cX2_meltSnow 27 = .ok (.getfield 9, 3) := by decide +kernel
theorem dX2_meltSnow_30 : decode cX2_meltSnow 30 = .ok (.iload_n 2, 1) := by decide +kernel
theorem dX2_meltSnow_31 : decode cX2_meltSnow 31 = .ok (.dup2, 1) := by decide +kernel
theorem dX2_meltSnow_32 : decode cX2_meltSnow 32 = .ok (.iaload, 1) := by decide +kernel
theorem dX2_meltSnow_33 : decode cX2_meltSnow 33 = .ok (.iload_n 3, 1) := by decide +kernel
theorem dX2_meltSnow_34 : decode cX2_meltSnow 34 = .ok (.isub, 1) := by decide +kernel
theorem dX2_meltSnow_35 : decode cX2_meltSnow 35 = .ok (.iastore, 1) := by decide +kernel
theorem dX2_meltSnow_36 : decode cX2_meltSnow 36 = .ok (.aload_n 0, 1) := by decide +kernel
theorem dX2_meltSnow_37 : decode cX2_meltSnow 37 = .ok (.getfield 18, 3) := by decide +kernel
theorem dX2_meltSnow_40 : decode cX2_meltSnow 40 = .ok (.iload_n 2, 1) := by decide +kernel
theorem dX2_meltSnow_41 : decode cX2_meltSnow 41 = .ok (.dup2, 1) := by decide +kernel
theorem dX2_meltSnow_42 : decode cX2_meltSnow 42 = .ok (.iaload, 1) := by decide +kernel
theorem dX2_meltSnow_43 : decode cX2_meltSnow 43 = .ok (.iload_n 3, 1) := by decide +kernel
theorem dX2_meltSnow_44 : decode cX2_meltSnow 44 = .ok (.isub, 1) := by decide +kernel
theorem dX2_meltSnow_45 : decode cX2_meltSnow 45 = .ok (.iastore, 1) := by decide +kernel
theorem dX2_meltSnow_46 : decode cX2_meltSnow 46 = .ok (.aload_n 0, 1) := by decide +kernel
theorem dX2_meltSnow_47 : decode cX2_meltSnow 47 = .ok (.dup, 1) := by decide +kernel
theorem dX2_meltSnow_48 : decode cX2_meltSnow 48 = .ok (.getfield 54, 3) := by decide +kernel
theorem dX2_meltSnow_51 : decode cX2_meltSnow 51 = .ok (.iload_n 3, 1) := by decide +kernel
theorem dX2_meltSnow_52 : decode cX2_meltSnow 52 = .ok (.iadd, 1) := by decide +kernel
theorem dX2_meltSnow_53 : decode cX2_meltSnow 53 = .ok (.putfield 54, 3) := by decide +kernel
theorem dX2_meltSnow_56 : decode cX2_meltSnow 56 = .ok (.iinc 2 1, 3) := by decide +kernel
theorem dX2_meltSnow_59 : decode cX2_meltSnow 59 = .ok (.goto (-57), 3) := by decide +kernel
def vds_meltSnow : List Cond := [.code yX2_meltSnow cX2_meltSnow 4 none, .fieldLink RX2 9 "SaltStreet$Ground" "salt" "[I", .fieldLink RX2 18 "SaltStreet$Ground" "snow" "[I", .methodLink RX2 84 Lib.Math.min.name, .static Lib.Math.min.name, .initialized "java/lang/Math", .code Lib.Math.min.name Lib.Math.min.code 2 (some .int), .fieldLink RX2 54 "SaltStreet$Ground" "melted" "I"]
def vs_meltSnow : List Cond := vds_meltSnow ++ (wsX40 ++ (wsX20 ++ ([] : List Cond)))
theorem is_meltSnow_X4 : ∀ w ∈ wsX40, w ∈ vs_meltSnow := fun _ h => List.mem_append_right _ (List.mem_append_left _ h)
theorem is_meltSnow_X2 : ∀ w ∈ wsX20, w ∈ vs_meltSnow := fun _ h => List.mem_append_right _ (List.mem_append_right _ (List.mem_append_left _ h))
set_option maxHeartbeats 4000000 in
set_option maxRecDepth 100000 in
theorem s_meltSnow (l : Launch) (D : va_G) (kc : Nat → ClassId) (sz : Nat) (na : Nat → Nat) (ga : Nat → Nat) (na_named : Nat) (na_houses : Nat) (na_quarrels : Nat) (na_cats : Nat) (na_grocers : Nat) (na_gone : Int32) (na_washes : Int32) (na_goneCounts : Int32) (ga_over : Int32) (ga_day : Int32) (ga_rained : Int32) (ga_purse : Int32) (ga_bought : Int32) (ga_washed : Int32) (ga_swept : Int32) (ga_melted : Int32) (ga_salt : Nat → Int32) (ga_snow : Nat → Int32) (h_na_named : na_named ≤ 24) (h_na_houses : na_houses ≤ 8) (h_na_quarrels : na_quarrels ≤ 8) (h_na_cats : na_cats ≤ 4) (h_na_grocers : na_grocers ≤ 4) (h_na_goneCounts : na_goneCounts = 0 ∨ na_goneCounts = 1) (h_ga_rained : ga_rained = 0 ∨ ga_rained = 1) : Met l yX2_meltSnow vs_meltSnow ({ frames := 1, cells := 0, slots := 0, locals := 13 }) (va_Pc [.ref (ga 2), .ref (na 1)] (wPre D kc [(na 1, .inr (4, [.ref (na 4), .ref (na 5), .ref (na 6), .ref (na 7), .ref (na 8), .ref (na 9), .ref (na 10), .ref (na 11), .ref (na 12), .ref (na 13), .ref (na 14), .ref (na 15), .int (nI na_named), .int (nI na_houses), .int (nI na_quarrels), .int (nI na_cats), .int (nI na_grocers), .int na_gone, .int na_washes, .int na_goneCounts])), (ga 2, .inr (2, [.ref (ga 16), .ref (ga 17), .ref (ga 18), .ref (ga 19), .ref (ga 20), .int ga_over, .int ga_day, .int ga_rained, .int ga_purse, .int ga_bought, .int ga_washed, .int ga_swept, .int ga_melted])), (ga 16, .inl (kc 0, 8, .inl ga_salt)), (ga 18, .inl (kc 0, 8, .inl ga_snow))] sz)) (va_Qv (fun (_ : Unit) => True) (fun (_ : Unit) (t9 : State) => ∃ ga_melted_n : Int32, ∃ ga_salt_n : Nat → Int32, ∃ ga_snow_n : Nat → Int32, va_P D vwCl [(na 1, .inr (4, [.ref (na 4), .ref (na 5), .ref (na 6), .ref (na 7), .ref (na 8), .ref (na 9), .ref (na 10), .ref (na 11), .ref (na 12), .ref (na 13), .ref (na 14), .ref (na 15), .int (nI na_named), .int (nI na_houses), .int (nI na_quarrels), .int (nI na_cats), .int (nI na_grocers), .int na_gone, .int na_washes, .int na_goneCounts])), (ga 2, .inr (2, [.ref (ga 16), .ref (ga 17), .ref (ga 18), .ref (ga 19), .ref (ga 20), .int ga_over, .int ga_day, .int ga_rained, .int ga_purse, .int ga_bought, .int ga_washed, .int ga_swept, .int ga_melted_n])), (ga 16, .inl (kc 0, 8, .inl ga_salt_n)), (ga 18, .inl (kc 0, 8, .inl ga_snow_n))] t9.heap ∧ va_D (va_A [(na 1, .inr (4, [.ref (na 4), .ref (na 5), .ref (na 6), .ref (na 7), .ref (na 8), .ref (na 9), .ref (na 10), .ref (na 11), .ref (na 12), .ref (na 13), .ref (na 14), .ref (na 15), .int (nI na_named), .int (nI na_houses), .int (nI na_quarrels), .int (nI na_cats), .int (nI na_grocers), .int na_gone, .int na_washes, .int na_goneCounts])), (ga 2, .inr (2, [.ref (ga 16), .ref (ga 17), .ref (ga 18), .ref (ga 19), .ref (ga 20), .int ga_over, .int ga_day, .int ga_rained, .int ga_purse, .int ga_bought, .int ga_washed, .int ga_swept, .int ga_melted])), (ga 16, .inl (kc 0, 8, .inl ga_salt)), (ga 18, .inl (kc 0, 8, .inl ga_snow))] sz) [(na 1, .inr (4, [.ref (na 4), .ref (na 5), .ref (na 6), .ref (na 7), .ref (na 8), .ref (na 9), .ref (na 10), .ref (na 11), .ref (na 12), .ref (na 13), .ref (na 14), .ref (na 15), .int (nI na_named), .int (nI na_houses), .int (nI na_quarrels), .int (nI na_cats), .int (nI na_grocers), .int na_gone, .int na_washes, .int na_goneCounts])), (ga 2, .inr (2, [.ref (ga 16), .ref (ga 17), .ref (ga 18), .ref (ga 19), .ref (ga 20), .int ga_over, .int ga_day, .int ga_rained, .int ga_purse, .int ga_bought, .int ga_washed, .int ga_swept, .int ga_melted_n])), (ga 16, .inl (kc 0, 8, .inl ga_salt_n)), (ga 18, .inl (kc 0, 8, .inl ga_snow_n))]) (va_A [(na 1, .inr (4, [.ref (na 4), .ref (na 5), .ref (na 6), .ref (na 7), .ref (na 8), .ref (na 9), .ref (na 10), .ref (na 11), .ref (na 12), .ref (na 13), .ref (na 14), .ref (na 15), .int (nI na_named), .int (nI na_houses), .int (nI na_quarrels), .int (nI na_cats), .int (nI na_grocers), .int na_gone, .int na_washes, .int na_goneCounts])), (ga 2, .inr (2, [.ref (ga 16), .ref (ga 17), .ref (ga 18), .ref (ga 19), .ref (ga 20), .int ga_over, .int ga_day, .int ga_rained, .int ga_purse, .int ga_bought, .int ga_washed, .int ga_swept, .int ga_melted])), (ga 16, .inl (kc 0, 8, .inl ga_salt)), (ga 18, .inl (kc 0, 8, .inl ga_snow))] sz)) 0 0 (va_A [(na 1, .inr (4, [.ref (na 4), .ref (na 5), .ref (na 6), .ref (na 7), .ref (na 8), .ref (na 9), .ref (na 10), .ref (na 11), .ref (na 12), .ref (na 13), .ref (na 14), .ref (na 15), .int (nI na_named), .int (nI na_houses), .int (nI na_quarrels), .int (nI na_cats), .int (nI na_grocers), .int na_gone, .int na_washes, .int na_goneCounts])), (ga 2, .inr (2, [.ref (ga 16), .ref (ga 17), .ref (ga 18), .ref (ga 19), .ref (ga 20), .int ga_over, .int ga_day, .int ga_rained, .int ga_purse, .int ga_bought, .int ga_washed, .int ga_swept, .int ga_melted])), (ga 16, .inl (kc 0, 8, .inl ga_salt)), (ga 18, .inl (kc 0, 8, .inl ga_snow))] sz) := by
  refine Met.ofW (cc := cX2_meltSnow) (maxL := 4) (ret := none) (by decide) rfl ?_
  intro p e s m args below meth c s₁ B hml hv
  obtain ⟨rfl, hsz, hP, hE, hD0⟩ := hv
  have hx := B.exec
  have hb := B.bytes
  have hr := B.returns
  have hts := atoms_spec (ws := vs_meltSnow) B.pre
  have hown : s.vm.findClass RX2 = some m.cls := findClass_of_methodNamed B.named
  have hlocks := B.notSynchronized
  subst hsz
  have hD := hD0.self (sz := s.heap.size)
  generalize hAe : va_A [(na 1, .inr (4, [.ref (na 4), .ref (na 5), .ref (na 6), .ref (na 7), .ref (na 8), .ref (na 9), .ref (na 10), .ref (na 11), .ref (na 12), .ref (na 13), .ref (na 14), .ref (na 15), .int (nI na_named), .int (nI na_houses), .int (nI na_quarrels), .int (nI na_cats), .int (nI na_grocers), .int na_gone, .int na_washes, .int na_goneCounts])), (ga 2, .inr (2, [.ref (ga 16), .ref (ga 17), .ref (ga 18), .ref (ga 19), .ref (ga 20), .int ga_over, .int ga_day, .int ga_rained, .int ga_purse, .int ga_bought, .int ga_washed, .int ga_swept, .int ga_melted])), (ga 16, .inl (kc 0, 8, .inl ga_salt)), (ga 18, .inl (kc 0, 8, .inl ga_snow))] s.heap.size = A at hD ⊢
  have hA : ∀ q : Nat, s.heap.size ≤ q → A q := fun q h => by rw [← hAe]; exact Or.inr h
  have hS : va_S A s.heap s.heap [] := va_S.rf
  have hK := hE.1
  have hP : va_P D vwCl [(na 1, .inr (4, [.ref (na 4), .ref (na 5), .ref (na 6), .ref (na 7), .ref (na 8), .ref (na 9), .ref (na 10), .ref (na 11), .ref (na 12), .ref (na 13), .ref (na 14), .ref (na 15), .int (nI na_named), .int (nI na_houses), .int (nI na_quarrels), .int (nI na_cats), .int (nI na_grocers), .int na_gone, .int na_washes, .int na_goneCounts])), (ga 2, .inr (2, [.ref (ga 16), .ref (ga 17), .ref (ga 18), .ref (ga 19), .ref (ga 20), .int ga_over, .int ga_day, .int ga_rained, .int ga_purse, .int ga_bought, .int ga_washed, .int ga_swept, .int ga_melted])), (ga 16, .inl (kc 0, 8, .inl ga_salt)), (ga 18, .inl (kc 0, 8, .inl ga_snow))] s.heap := hP
  have hl := lv_entry ([.ref (ga 2), .ref (na 1)]) (n := 4) (Nat.le_of_ble_eq_true rfl)
  rw [lg_entry_eq]
  generalize (lg_sl ([.ref (ga 2), .ref (na 1)]) ++ List.replicate (4 - (lg_sl ([.ref (ga 2), .ref (na 1)])).length) Slot.unset).toArray = ls at hl ⊢
  have hl : lv_has ls 4 [(0, .ref (ga 2)), (1, .ref (na 1))] := hl
  refine lv_iconst (v := 0) hx hb dX2_meltSnow_0 (by decide) ?_
  refine lv_istore_n (lv' := [(2, .int 0), (0, .ref (ga 2)), (1, .ref (na 1))]) hx hb dX2_meltSnow_1 rfl hl (by decide) rfl (fun ls hl => ?_)
  have loop_n9_2_32 : ∀ (n9_2_32 : Nat) (i28 : Nat) (f29 : Nat → Int32) (f30 : Nat → Int32) (z31 : Int32), i28 ≤ na_houses → na_houses < i28 + n9_2_32 → ∀ (H : Heap) (locs : List Loc) (ls : Array Slot), va_P D vwCl [(na 1, .inr (4, [.ref (na 4), .ref (na 5), .ref (na 6), .ref (na 7), .ref (na 8), .ref (na 9), .ref (na 10), .ref (na 11), .ref (na 12), .ref (na 13), .ref (na 14), .ref (na 15), .int (nI na_named), .int (nI na_houses), .int (nI na_quarrels), .int (nI na_cats), .int (nI na_grocers), .int na_gone, .int na_washes, .int na_goneCounts])), (ga 2, .inr (2, [.ref (ga 16), .ref (ga 17), .ref (ga 18), .ref (ga 19), .ref (ga 20), .int ga_over, .int ga_day, .int ga_rained, .int ga_purse, .int ga_bought, .int ga_washed, .int ga_swept, .int z31])), (ga 16, .inl (kc 0, 8, .inl f29)), (ga 18, .inl (kc 0, 8, .inl f30))] H → va_D A [(na 1, .inr (4, [.ref (na 4), .ref (na 5), .ref (na 6), .ref (na 7), .ref (na 8), .ref (na 9), .ref (na 10), .ref (na 11), .ref (na 12), .ref (na 13), .ref (na 14), .ref (na 15), .int (nI na_named), .int (nI na_houses), .int (nI na_quarrels), .int (nI na_cats), .int (nI na_grocers), .int na_gone, .int na_washes, .int na_goneCounts])), (ga 2, .inr (2, [.ref (ga 16), .ref (ga 17), .ref (ga 18), .ref (ga 19), .ref (ga 20), .int ga_over, .int ga_day, .int ga_rained, .int ga_purse, .int ga_bought, .int ga_washed, .int ga_swept, .int z31])), (ga 16, .inl (kc 0, 8, .inl f29)), (ga 18, .inl (kc 0, 8, .inl f30))] → va_S A s.heap H locs → lv_has ls 4 [(2, .int (nI i28)), (0, .ref (ga 2)), (1, .ref (na 1))] → W p l e (headSpec vs_meltSnow ({ frames := 1, cells := 0, slots := 0, locals := 13 })).room s m [.ref (ga 2), .ref (na 1)].toArray below meth c H locs 0 0 (MQ below (va_Qv (fun (_ : Unit) => True) (fun (_ : Unit) (t9 : State) => ∃ ga_melted_n : Int32, ∃ ga_salt_n : Nat → Int32, ∃ ga_snow_n : Nat → Int32, va_P D vwCl [(na 1, .inr (4, [.ref (na 4), .ref (na 5), .ref (na 6), .ref (na 7), .ref (na 8), .ref (na 9), .ref (na 10), .ref (na 11), .ref (na 12), .ref (na 13), .ref (na 14), .ref (na 15), .int (nI na_named), .int (nI na_houses), .int (nI na_quarrels), .int (nI na_cats), .int (nI na_grocers), .int na_gone, .int na_washes, .int na_goneCounts])), (ga 2, .inr (2, [.ref (ga 16), .ref (ga 17), .ref (ga 18), .ref (ga 19), .ref (ga 20), .int ga_over, .int ga_day, .int ga_rained, .int ga_purse, .int ga_bought, .int ga_washed, .int ga_swept, .int ga_melted_n])), (ga 16, .inl (kc 0, 8, .inl ga_salt_n)), (ga 18, .inl (kc 0, 8, .inl ga_snow_n))] t9.heap ∧ va_D A [(na 1, .inr (4, [.ref (na 4), .ref (na 5), .ref (na 6), .ref (na 7), .ref (na 8), .ref (na 9), .ref (na 10), .ref (na 11), .ref (na 12), .ref (na 13), .ref (na 14), .ref (na 15), .int (nI na_named), .int (nI na_houses), .int (nI na_quarrels), .int (nI na_cats), .int (nI na_grocers), .int na_gone, .int na_washes, .int na_goneCounts])), (ga 2, .inr (2, [.ref (ga 16), .ref (ga 17), .ref (ga 18), .ref (ga 19), .ref (ga 20), .int ga_over, .int ga_day, .int ga_rained, .int ga_purse, .int ga_bought, .int ga_washed, .int ga_swept, .int ga_melted_n])), (ga 16, .inl (kc 0, 8, .inl ga_salt_n)), (ga 18, .inl (kc 0, 8, .inl ga_snow_n))]) A) [.ref (ga 2), .ref (na 1)].toArray s 0 0 A) (F0 m 2 ls []) := by
    intro n9_2_32
    induction n9_2_32 with
    | zero => intro i28 f29 f30 z31  h1 h2; exact absurd h2 (by omega)
    | succ n9_2_32 ih_n9_2_32 =>
      intro i28 f29 f30 z31  h1_n9_2_32 h2_n9_2_32 H locs ls hP hD hS hl
      refine lv_iload_n hx hb dX2_meltSnow_2 rfl (lv_at hl 0 rfl) ?_
      refine lv_aload_n hx hb dX2_meltSnow_3 rfl (lv_at hl 2 rfl) ?_
      refine va_getN (D := D) (ci := 4) (v := .int (nI na_houses)) (C := RX4) (T := TX4) (N := 20) hx hb hts is_meltSnow_X4 hown hK hP 0 rfl rfl 13 (by decide) (hE.nw 35 rfl) (fun _ h9 => h9) rfl dX2_meltSnow_4 ?_
      refine lv_icmp_ge (tgt := 62) hx hb dX2_meltSnow_7 (by decide) (fun c33 => ?_) (fun c33 => ?_)
      · have nc33 := (nI_leI (a := na_houses) (b := i28) (by omega) (by omega)).mp c33
        have hP9 := hP.sub (ws' := [(na 1, .inr (4, [.ref (na 4), .ref (na 5), .ref (na 6), .ref (na 7), .ref (na 8), .ref (na 9), .ref (na 10), .ref (na 11), .ref (na 12), .ref (na 13), .ref (na 14), .ref (na 15), .int (nI na_named), .int (nI na_houses), .int (nI na_quarrels), .int (nI na_cats), .int (nI na_grocers), .int na_gone, .int na_washes, .int na_goneCounts])), (ga 2, .inr (2, [.ref (ga 16), .ref (ga 17), .ref (ga 18), .ref (ga 19), .ref (ga 20), .int ga_over, .int ga_day, .int ga_rained, .int ga_purse, .int ga_bought, .int ga_washed, .int ga_swept, .int z31])), (ga 16, .inl (kc 0, 8, .inl f29)), (ga 18, .inl (kc 0, 8, .inl f30))]) [0, 1, 2, 3] rfl
        have hD9 := hD.sub (ws' := [(na 1, .inr (4, [.ref (na 4), .ref (na 5), .ref (na 6), .ref (na 7), .ref (na 8), .ref (na 9), .ref (na 10), .ref (na 11), .ref (na 12), .ref (na 13), .ref (na 14), .ref (na 15), .int (nI na_named), .int (nI na_houses), .int (nI na_quarrels), .int (nI na_cats), .int (nI na_grocers), .int na_gone, .int na_washes, .int na_goneCounts])), (ga 2, .inr (2, [.ref (ga 16), .ref (ga 17), .ref (ga 18), .ref (ga 19), .ref (ga 20), .int ga_over, .int ga_day, .int ga_rained, .int ga_purse, .int ga_bought, .int ga_washed, .int ga_swept, .int z31])), (ga 16, .inl (kc 0, 8, .inl f29)), (ga 18, .inl (kc 0, 8, .inl f30))]) [0, 1, 2, 3] (by decide) rfl
        exact W.vret hx hb hr (fun t9 ht hW => ⟨⟨(), rfl, trivial, z31, f29, f30, by rw [ht]; exact hP9, hD9⟩, hS.F ht⟩) hS.2.2 dX2_meltSnow_62
      · have nc33 := Nat.not_le.mp (fun q => c33 ((nI_leI (a := na_houses) (b := i28) (by omega) (by omega)).mpr q))
        refine lv_aload_n hx hb dX2_meltSnow_10 rfl (lv_at hl 1 rfl) ?_
        refine va_get (D := D) (ci := 2) (v := .ref (ga 16)) (C := RX2) (T := TX2) (N := 13) hx hb hts is_meltSnow_X2 hown hK hP 1 rfl rfl 0 (by decide) (hts (.fieldLink RX2 9 "SaltStreet$Ground" "salt" "[I") (List.mem_of_getElem? (i := 1) rfl)) (fun _ h9 => h9) rfl dX2_meltSnow_11 ?_
        refine lv_iload_n hx hb dX2_meltSnow_14 rfl (lv_at hl 0 rfl) ?_
        refine va_iald hx hb hK hP 2 0 (f := f29) rfl rfl (vp_in_nI (by omega) (by decide)) dX2_meltSnow_15 ?_
        refine lv_topi (fun z34 _ => ?_)
        refine lv_aload_n hx hb dX2_meltSnow_16 rfl (lv_at hl 1 rfl) ?_
        refine va_get (D := D) (ci := 2) (v := .ref (ga 18)) (C := RX2) (T := TX2) (N := 13) hx hb hts is_meltSnow_X2 hown hK hP 1 rfl rfl 2 (by decide) (hts (.fieldLink RX2 18 "SaltStreet$Ground" "snow" "[I") (List.mem_of_getElem? (i := 2) rfl)) (fun _ h9 => h9) rfl dX2_meltSnow_17 ?_
        refine lv_iload_n hx hb dX2_meltSnow_20 rfl (lv_at hl 0 rfl) ?_
        refine va_iald hx hb hK hP 3 0 (f := f30) rfl rfl (vp_in_nI (by omega) (by decide)) dX2_meltSnow_21 ?_
        refine lv_topi (fun z35 _ => ?_)
        refine va_mmin hx hb (by rw [hml, hl.1]) hown (hts (.methodLink RX2 84 Lib.Math.min.name) (List.mem_of_getElem? (i := 3) rfl)) (hts (.static Lib.Math.min.name) (List.mem_of_getElem? (i := 4) rfl)) (hts (.initialized "java/lang/Math") (List.mem_of_getElem? (i := 5) rfl)) (hts (.code Lib.Math.min.name Lib.Math.min.code 2 (some .int)) (List.mem_of_getElem? (i := 6) rfl)) (Nat.le_of_ble_eq_true rfl) (Nat.le_of_ble_eq_true rfl) (Nat.le_of_ble_eq_true rfl) (Nat.le_of_ble_eq_true rfl) dX2_meltSnow_22 ?_
        refine lv_topi (fun z36 _ => ?_)
        refine lv_istore_n (lv' := [(3, .int z36), (2, .int (nI i28)), (0, .ref (ga 2)), (1, .ref (na 1))]) hx hb dX2_meltSnow_25 rfl hl (by decide) rfl (fun ls hl => ?_)
        refine lv_aload_n hx hb dX2_meltSnow_26 rfl (lv_at hl 2 rfl) ?_
        refine va_get (D := D) (ci := 2) (v := .ref (ga 16)) (C := RX2) (T := TX2) (N := 13) hx hb hts is_meltSnow_X2 hown hK hP 1 rfl rfl 0 (by decide) (hts (.fieldLink RX2 9 "SaltStreet$Ground" "salt" "[I") (List.mem_of_getElem? (i := 1) rfl)) (fun _ h9 => h9) rfl dX2_meltSnow_27 ?_
        refine lv_iload_n hx hb dX2_meltSnow_30 rfl (lv_at hl 1 rfl) ?_
        refine lv_dup2_11 hx hb dX2_meltSnow_31 rfl rfl ?_
        refine va_iald hx hb hK hP 2 0 (f := f29) rfl rfl (vp_in_nI (by omega) (by decide)) dX2_meltSnow_32 ?_
        refine lv_topi (fun z37 _ => ?_)
        refine lv_iload_n hx hb dX2_meltSnow_33 rfl (lv_at hl 0 rfl) ?_
        refine lv_isub hx hb dX2_meltSnow_34 ?_
        refine lv_topi (fun z38 _ => ?_)
        refine va_iast hx hb hK hP hD hS 2 0 (f := f29) rfl rfl (vp_in_nI (by omega) (by decide)) dX2_meltSnow_35 (fun H locs hP hD hS => ?_)
        have hP : va_P D vwCl [(na 1, .inr (4, [.ref (na 4), .ref (na 5), .ref (na 6), .ref (na 7), .ref (na 8), .ref (na 9), .ref (na 10), .ref (na 11), .ref (na 12), .ref (na 13), .ref (na 14), .ref (na 15), .int (nI na_named), .int (nI na_houses), .int (nI na_quarrels), .int (nI na_cats), .int (nI na_grocers), .int na_gone, .int na_washes, .int na_goneCounts])), (ga 2, .inr (2, [.ref (ga 16), .ref (ga 17), .ref (ga 18), .ref (ga 19), .ref (ga 20), .int ga_over, .int ga_day, .int ga_rained, .int ga_purse, .int ga_bought, .int ga_washed, .int ga_swept, .int z31])), (ga 16, .inl (kc 0, 8, .inl (upd f29 ((nI i28) : Int32).toNatClampNeg z38))), (ga 18, .inl (kc 0, 8, .inl f30))] H := hP
        have hD : va_D A [(na 1, .inr (4, [.ref (na 4), .ref (na 5), .ref (na 6), .ref (na 7), .ref (na 8), .ref (na 9), .ref (na 10), .ref (na 11), .ref (na 12), .ref (na 13), .ref (na 14), .ref (na 15), .int (nI na_named), .int (nI na_houses), .int (nI na_quarrels), .int (nI na_cats), .int (nI na_grocers), .int na_gone, .int na_washes, .int na_goneCounts])), (ga 2, .inr (2, [.ref (ga 16), .ref (ga 17), .ref (ga 18), .ref (ga 19), .ref (ga 20), .int ga_over, .int ga_day, .int ga_rained, .int ga_purse, .int ga_bought, .int ga_washed, .int ga_swept, .int z31])), (ga 16, .inl (kc 0, 8, .inl (upd f29 ((nI i28) : Int32).toNatClampNeg z38))), (ga 18, .inl (kc 0, 8, .inl f30))] := hD
        generalize (upd f29 ((nI i28) : Int32).toNatClampNeg z38) = f39 at hP hD
        refine lv_aload_n hx hb dX2_meltSnow_36 rfl (lv_at hl 2 rfl) ?_
        refine va_get (D := D) (ci := 2) (v := .ref (ga 18)) (C := RX2) (T := TX2) (N := 13) hx hb hts is_meltSnow_X2 hown hK hP 1 rfl rfl 2 (by decide) (hts (.fieldLink RX2 18 "SaltStreet$Ground" "snow" "[I") (List.mem_of_getElem? (i := 2) rfl)) (fun _ h9 => h9) rfl dX2_meltSnow_37 ?_
        refine lv_iload_n hx hb dX2_meltSnow_40 rfl (lv_at hl 1 rfl) ?_
        refine lv_dup2_11 hx hb dX2_meltSnow_41 rfl rfl ?_
        refine va_iald hx hb hK hP 3 0 (f := f30) rfl rfl (vp_in_nI (by omega) (by decide)) dX2_meltSnow_42 ?_
        refine lv_topi (fun z40 _ => ?_)
        refine lv_iload_n hx hb dX2_meltSnow_43 rfl (lv_at hl 0 rfl) ?_
        refine lv_isub hx hb dX2_meltSnow_44 ?_
        refine lv_topi (fun z41 _ => ?_)
        refine va_iast hx hb hK hP hD hS 3 0 (f := f30) rfl rfl (vp_in_nI (by omega) (by decide)) dX2_meltSnow_45 (fun H locs hP hD hS => ?_)
        have hP : va_P D vwCl [(na 1, .inr (4, [.ref (na 4), .ref (na 5), .ref (na 6), .ref (na 7), .ref (na 8), .ref (na 9), .ref (na 10), .ref (na 11), .ref (na 12), .ref (na 13), .ref (na 14), .ref (na 15), .int (nI na_named), .int (nI na_houses), .int (nI na_quarrels), .int (nI na_cats), .int (nI na_grocers), .int na_gone, .int na_washes, .int na_goneCounts])), (ga 2, .inr (2, [.ref (ga 16), .ref (ga 17), .ref (ga 18), .ref (ga 19), .ref (ga 20), .int ga_over, .int ga_day, .int ga_rained, .int ga_purse, .int ga_bought, .int ga_washed, .int ga_swept, .int z31])), (ga 16, .inl (kc 0, 8, .inl f39)), (ga 18, .inl (kc 0, 8, .inl (upd f30 ((nI i28) : Int32).toNatClampNeg z41)))] H := hP
        have hD : va_D A [(na 1, .inr (4, [.ref (na 4), .ref (na 5), .ref (na 6), .ref (na 7), .ref (na 8), .ref (na 9), .ref (na 10), .ref (na 11), .ref (na 12), .ref (na 13), .ref (na 14), .ref (na 15), .int (nI na_named), .int (nI na_houses), .int (nI na_quarrels), .int (nI na_cats), .int (nI na_grocers), .int na_gone, .int na_washes, .int na_goneCounts])), (ga 2, .inr (2, [.ref (ga 16), .ref (ga 17), .ref (ga 18), .ref (ga 19), .ref (ga 20), .int ga_over, .int ga_day, .int ga_rained, .int ga_purse, .int ga_bought, .int ga_washed, .int ga_swept, .int z31])), (ga 16, .inl (kc 0, 8, .inl f39)), (ga 18, .inl (kc 0, 8, .inl (upd f30 ((nI i28) : Int32).toNatClampNeg z41)))] := hD
        generalize (upd f30 ((nI i28) : Int32).toNatClampNeg z41) = f42 at hP hD
        refine lv_aload_n hx hb dX2_meltSnow_46 rfl (lv_at hl 2 rfl) ?_
        refine lv_dup hx hb dX2_meltSnow_47 rfl ?_
        refine va_get (D := D) (ci := 2) (v := .int z31) (C := RX2) (T := TX2) (N := 13) hx hb hts is_meltSnow_X2 hown hK hP 1 rfl rfl 12 (by decide) (hts (.fieldLink RX2 54 "SaltStreet$Ground" "melted" "I") (List.mem_of_getElem? (i := 7) rfl)) (fun _ h9 => h9) rfl dX2_meltSnow_48 ?_
        refine lv_iload_n hx hb dX2_meltSnow_51 rfl (lv_at hl 0 rfl) ?_
        refine lv_iadd hx hb dX2_meltSnow_52 ?_
        refine lv_topi (fun z43 _ => ?_)
        refine va_put (D := D) (ci := 2) (v := .int z43) (ty := .int) (C := RX2) (T := TX2) (N := 13) hx hb hts is_meltSnow_X2 tyX2 tyX2_ok nmX2 hown hK hP hD hS 1 rfl rfl 12 (by decide) (hts (.fieldLink RX2 54 "SaltStreet$Ground" "melted" "I") (List.mem_of_getElem? (i := 7) rfl)) (fun _ h9 => h9) rfl (by decide +kernel) rfl rfl (Nat.le_of_ble_eq_true rfl) dX2_meltSnow_53 (fun H locs hP hD hS => ?_)
        have hP : va_P D vwCl [(na 1, .inr (4, [.ref (na 4), .ref (na 5), .ref (na 6), .ref (na 7), .ref (na 8), .ref (na 9), .ref (na 10), .ref (na 11), .ref (na 12), .ref (na 13), .ref (na 14), .ref (na 15), .int (nI na_named), .int (nI na_houses), .int (nI na_quarrels), .int (nI na_cats), .int (nI na_grocers), .int na_gone, .int na_washes, .int na_goneCounts])), (ga 2, .inr (2, [.ref (ga 16), .ref (ga 17), .ref (ga 18), .ref (ga 19), .ref (ga 20), .int ga_over, .int ga_day, .int ga_rained, .int ga_purse, .int ga_bought, .int ga_washed, .int ga_swept, .int z43])), (ga 16, .inl (kc 0, 8, .inl f39)), (ga 18, .inl (kc 0, 8, .inl f42))] H := hP
        have hD : va_D A [(na 1, .inr (4, [.ref (na 4), .ref (na 5), .ref (na 6), .ref (na 7), .ref (na 8), .ref (na 9), .ref (na 10), .ref (na 11), .ref (na 12), .ref (na 13), .ref (na 14), .ref (na 15), .int (nI na_named), .int (nI na_houses), .int (nI na_quarrels), .int (nI na_cats), .int (nI na_grocers), .int na_gone, .int na_washes, .int na_goneCounts])), (ga 2, .inr (2, [.ref (ga 16), .ref (ga 17), .ref (ga 18), .ref (ga 19), .ref (ga 20), .int ga_over, .int ga_day, .int ga_rained, .int ga_purse, .int ga_bought, .int ga_washed, .int ga_swept, .int z43])), (ga 16, .inl (kc 0, 8, .inl f39)), (ga 18, .inl (kc 0, 8, .inl f42))] := hD
        refine lv_iinc (v := (nI (i28 + 1))) (lv' := [(2, .int (nI (i28 + 1))), (3, .int z36), (0, .ref (ga 2)), (1, .ref (na 1))]) hx hb dX2_meltSnow_56 hl (k := 1) rfl (nI_1 _) (by decide) rfl (fun ls hl => ?_)
        refine lv_goto (tgt := 2) hx hb dX2_meltSnow_59 (by decide) ?_
        exact ih_n9_2_32 (i28 + 1) f39 f42 z43 (by omega) (by omega) _ _ ls hP hD hS (lv_sub hl [0, 2, 3] rfl)
  exact loop_n9_2_32 (na_houses + 1) 0 ga_salt ga_snow ga_melted (by omega) (by omega) _ _ ls hP hD hS (lv_sub hl [0, 1, 2] rfl)
theorem dX2_countWar_0 : decode cX2_countWar 0 = .ok (.iconst 0, 1) := by decide +kernel
theorem dX2_countWar_1 : decode cX2_countWar 1 = .ok (.istore_n 2, 1) := by decide +kernel
theorem dX2_countWar_2 : decode cX2_countWar 2 = .ok (.iload_n 2, 1) := by decide +kernel
theorem dX2_countWar_3 : decode cX2_countWar 3 = .ok (.aload_n 1, 1) := by decide +kernel
theorem dX2_countWar_4 : decode cX2_countWar 4 = .ok (.getfield 129, 3) := by decide +kernel
theorem dX2_countWar_7 : decode cX2_countWar 7 = .ok (.if_icmp .ge 30, 3) := by decide +kernel
theorem dX2_countWar_37 : decode cX2_countWar 37 = .ok (.return_, 1) := by decide +kernel
theorem dX2_countWar_10 : decode cX2_countWar 10 = .ok (.aload_n 0, 1) := by decide +kernel
theorem dX2_countWar_11 : decode cX2_countWar 11 = .ok (.getfield 31, 3) := by decide +kernel
theorem dX2_countWar_14 : decode cX2_countWar 14 = .ok (.iload_n 2, 1) := by decide +kernel
theorem dX2_countWar_15 : decode cX2_countWar 15 = .ok (.invokestatic 70, 3) := by decide +kernel
theorem dX2_countWar_18 : decode cX2_countWar 18 = .ok (.ifCond .ne 13, 3) := by decide +kernel
theorem dX2_countWar_31 : decode cX2_countWar 31 = .ok (.iinc 2 1, 3) := by decide +kernel
theorem dX2_countWar_34 : decode cX2_countWar 34 = .ok (.goto (-32), 3) := by decide +kernel
theorem dX2_countWar_21 : decode cX2_countWar 21 = .ok (.aload_n 0, 1) := by decide +kernel
theorem dX2_countWar_22 : decode cX2_countWar 22 = .ok (.getfield 21, 3) := by decide +kernel
theorem dX2_countWar_25 : decode cX2_countWar 25 = .ok (.iload_n 2, 1) := by decide +kernel
theorem dX2_countWar_26 : decode cX2_countWar 26 = .ok (.dup2, 1) := by decide +kernel
theorem dX2_countWar_27 : decode cX2_countWar 27 = .ok (.iaload, 1) := by decide +kernel
theorem dX2_countWar_28 : decode cX2_countWar 28 = .ok (.iconst 1, 1) := by decide +kernel
theorem dX2_countWar_29 : decode cX2_countWar 29 = .ok (.iadd, 1) := by decide +kernel
theorem dX2_countWar_30 : decode cX2_countWar 30 = .ok (.iastore, 1) := by decide +kernel
def vds_countWar : List Cond := [.code yX2_countWar cX2_countWar 3 none, .fieldLink RX2 31 "SaltStreet$Ground" "over" "I", .code yX11_has cX11_has 2 (some .boolean), .initialized RX11, .static yX11_has, .fieldLink RX2 21 "SaltStreet$Ground" "war" "[I"]
def vs_countWar : List Cond := vds_countWar ++ (wsX40 ++ (wsX20 ++ ([] : List Cond)))
theorem is_countWar_X4 : ∀ w ∈ wsX40, w ∈ vs_countWar := fun _ h => List.mem_append_right _ (List.mem_append_left _ h)
theorem is_countWar_X2 : ∀ w ∈ wsX20, w ∈ vs_countWar := fun _ h => List.mem_append_right _ (List.mem_append_right _ (List.mem_append_left _ h))
set_option maxRecDepth 20000 in
theorem gs_countWar_70_s_has : GoodIn vs_countWar vs_has := (goodIn_app (goodIn_r vds_has [2] rfl (by decide +kernel)) goodIn_nil)
set_option maxHeartbeats 4000000 in
set_option maxRecDepth 100000 in
theorem s_countWar (l : Launch) (D : va_G) (kc : Nat → ClassId) (sz : Nat) (na : Nat → Nat) (ga : Nat → Nat) (na_named : Nat) (na_houses : Nat) (na_quarrels : Nat) (na_cats : Nat) (na_grocers : Nat) (na_gone : Int32) (na_washes : Int32) (na_goneCounts : Int32) (ga_over : Int32) (ga_day : Int32) (ga_rained : Int32) (ga_purse : Int32) (ga_bought : Int32) (ga_washed : Int32) (ga_swept : Int32) (ga_melted : Int32) (ga_war : Nat → Int32) (h_na_named : na_named ≤ 24) (h_na_houses : na_houses ≤ 8) (h_na_quarrels : na_quarrels ≤ 8) (h_na_cats : na_cats ≤ 4) (h_na_grocers : na_grocers ≤ 4) (h_na_goneCounts : na_goneCounts = 0 ∨ na_goneCounts = 1) (h_ga_rained : ga_rained = 0 ∨ ga_rained = 1) : Met l yX2_countWar vs_countWar ({ frames := 1, cells := 0, slots := 0, locals := 21 }) (va_Pc [.ref (ga 2), .ref (na 1)] (wPre D kc [(na 1, .inr (4, [.ref (na 4), .ref (na 5), .ref (na 6), .ref (na 7), .ref (na 8), .ref (na 9), .ref (na 10), .ref (na 11), .ref (na 12), .ref (na 13), .ref (na 14), .ref (na 15), .int (nI na_named), .int (nI na_houses), .int (nI na_quarrels), .int (nI na_cats), .int (nI na_grocers), .int na_gone, .int na_washes, .int na_goneCounts])), (ga 2, .inr (2, [.ref (ga 16), .ref (ga 17), .ref (ga 18), .ref (ga 19), .ref (ga 20), .int ga_over, .int ga_day, .int ga_rained, .int ga_purse, .int ga_bought, .int ga_washed, .int ga_swept, .int ga_melted])), (ga 19, .inl (kc 0, 8, .inl ga_war))] sz)) (va_Qv (fun (_ : Unit) => True) (fun (_ : Unit) (t9 : State) => ∃ ga_war_n : Nat → Int32, va_P D vwCl [(na 1, .inr (4, [.ref (na 4), .ref (na 5), .ref (na 6), .ref (na 7), .ref (na 8), .ref (na 9), .ref (na 10), .ref (na 11), .ref (na 12), .ref (na 13), .ref (na 14), .ref (na 15), .int (nI na_named), .int (nI na_houses), .int (nI na_quarrels), .int (nI na_cats), .int (nI na_grocers), .int na_gone, .int na_washes, .int na_goneCounts])), (ga 2, .inr (2, [.ref (ga 16), .ref (ga 17), .ref (ga 18), .ref (ga 19), .ref (ga 20), .int ga_over, .int ga_day, .int ga_rained, .int ga_purse, .int ga_bought, .int ga_washed, .int ga_swept, .int ga_melted])), (ga 19, .inl (kc 0, 8, .inl ga_war_n))] t9.heap ∧ va_D (va_A [(na 1, .inr (4, [.ref (na 4), .ref (na 5), .ref (na 6), .ref (na 7), .ref (na 8), .ref (na 9), .ref (na 10), .ref (na 11), .ref (na 12), .ref (na 13), .ref (na 14), .ref (na 15), .int (nI na_named), .int (nI na_houses), .int (nI na_quarrels), .int (nI na_cats), .int (nI na_grocers), .int na_gone, .int na_washes, .int na_goneCounts])), (ga 2, .inr (2, [.ref (ga 16), .ref (ga 17), .ref (ga 18), .ref (ga 19), .ref (ga 20), .int ga_over, .int ga_day, .int ga_rained, .int ga_purse, .int ga_bought, .int ga_washed, .int ga_swept, .int ga_melted])), (ga 19, .inl (kc 0, 8, .inl ga_war))] sz) [(na 1, .inr (4, [.ref (na 4), .ref (na 5), .ref (na 6), .ref (na 7), .ref (na 8), .ref (na 9), .ref (na 10), .ref (na 11), .ref (na 12), .ref (na 13), .ref (na 14), .ref (na 15), .int (nI na_named), .int (nI na_houses), .int (nI na_quarrels), .int (nI na_cats), .int (nI na_grocers), .int na_gone, .int na_washes, .int na_goneCounts])), (ga 2, .inr (2, [.ref (ga 16), .ref (ga 17), .ref (ga 18), .ref (ga 19), .ref (ga 20), .int ga_over, .int ga_day, .int ga_rained, .int ga_purse, .int ga_bought, .int ga_washed, .int ga_swept, .int ga_melted])), (ga 19, .inl (kc 0, 8, .inl ga_war_n))]) (va_A [(na 1, .inr (4, [.ref (na 4), .ref (na 5), .ref (na 6), .ref (na 7), .ref (na 8), .ref (na 9), .ref (na 10), .ref (na 11), .ref (na 12), .ref (na 13), .ref (na 14), .ref (na 15), .int (nI na_named), .int (nI na_houses), .int (nI na_quarrels), .int (nI na_cats), .int (nI na_grocers), .int na_gone, .int na_washes, .int na_goneCounts])), (ga 2, .inr (2, [.ref (ga 16), .ref (ga 17), .ref (ga 18), .ref (ga 19), .ref (ga 20), .int ga_over, .int ga_day, .int ga_rained, .int ga_purse, .int ga_bought, .int ga_washed, .int ga_swept, .int ga_melted])), (ga 19, .inl (kc 0, 8, .inl ga_war))] sz)) 0 0 (va_A [(na 1, .inr (4, [.ref (na 4), .ref (na 5), .ref (na 6), .ref (na 7), .ref (na 8), .ref (na 9), .ref (na 10), .ref (na 11), .ref (na 12), .ref (na 13), .ref (na 14), .ref (na 15), .int (nI na_named), .int (nI na_houses), .int (nI na_quarrels), .int (nI na_cats), .int (nI na_grocers), .int na_gone, .int na_washes, .int na_goneCounts])), (ga 2, .inr (2, [.ref (ga 16), .ref (ga 17), .ref (ga 18), .ref (ga 19), .ref (ga 20), .int ga_over, .int ga_day, .int ga_rained, .int ga_purse, .int ga_bought, .int ga_washed, .int ga_swept, .int ga_melted])), (ga 19, .inl (kc 0, 8, .inl ga_war))] sz) := by
  refine Met.ofW (cc := cX2_countWar) (maxL := 3) (ret := none) (by decide) rfl ?_
  intro p e s m args below meth c s₁ B hml hv
  obtain ⟨rfl, hsz, hP, hE, hD0⟩ := hv
  have hx := B.exec
  have hb := B.bytes
  have hr := B.returns
  have hts := atoms_spec (ws := vs_countWar) B.pre
  have hown : s.vm.findClass RX2 = some m.cls := findClass_of_methodNamed B.named
  have hlocks := B.notSynchronized
  subst hsz
  have hD := hD0.self (sz := s.heap.size)
  generalize hAe : va_A [(na 1, .inr (4, [.ref (na 4), .ref (na 5), .ref (na 6), .ref (na 7), .ref (na 8), .ref (na 9), .ref (na 10), .ref (na 11), .ref (na 12), .ref (na 13), .ref (na 14), .ref (na 15), .int (nI na_named), .int (nI na_houses), .int (nI na_quarrels), .int (nI na_cats), .int (nI na_grocers), .int na_gone, .int na_washes, .int na_goneCounts])), (ga 2, .inr (2, [.ref (ga 16), .ref (ga 17), .ref (ga 18), .ref (ga 19), .ref (ga 20), .int ga_over, .int ga_day, .int ga_rained, .int ga_purse, .int ga_bought, .int ga_washed, .int ga_swept, .int ga_melted])), (ga 19, .inl (kc 0, 8, .inl ga_war))] s.heap.size = A at hD ⊢
  have hA : ∀ q : Nat, s.heap.size ≤ q → A q := fun q h => by rw [← hAe]; exact Or.inr h
  have hS : va_S A s.heap s.heap [] := va_S.rf
  have hK := hE.1
  have hP : va_P D vwCl [(na 1, .inr (4, [.ref (na 4), .ref (na 5), .ref (na 6), .ref (na 7), .ref (na 8), .ref (na 9), .ref (na 10), .ref (na 11), .ref (na 12), .ref (na 13), .ref (na 14), .ref (na 15), .int (nI na_named), .int (nI na_houses), .int (nI na_quarrels), .int (nI na_cats), .int (nI na_grocers), .int na_gone, .int na_washes, .int na_goneCounts])), (ga 2, .inr (2, [.ref (ga 16), .ref (ga 17), .ref (ga 18), .ref (ga 19), .ref (ga 20), .int ga_over, .int ga_day, .int ga_rained, .int ga_purse, .int ga_bought, .int ga_washed, .int ga_swept, .int ga_melted])), (ga 19, .inl (kc 0, 8, .inl ga_war))] s.heap := hP
  have hl := lv_entry ([.ref (ga 2), .ref (na 1)]) (n := 3) (Nat.le_of_ble_eq_true rfl)
  rw [lg_entry_eq]
  generalize (lg_sl ([.ref (ga 2), .ref (na 1)]) ++ List.replicate (3 - (lg_sl ([.ref (ga 2), .ref (na 1)])).length) Slot.unset).toArray = ls at hl ⊢
  have hl : lv_has ls 3 [(0, .ref (ga 2)), (1, .ref (na 1))] := hl
  refine lv_iconst (v := 0) hx hb dX2_countWar_0 (by decide) ?_
  refine lv_istore_n (lv' := [(2, .int 0), (0, .ref (ga 2)), (1, .ref (na 1))]) hx hb dX2_countWar_1 rfl hl (by decide) rfl (fun ls hl => ?_)
  have loop_n9_2_18 : ∀ (n9_2_18 : Nat) (i16 : Nat) (f17 : Nat → Int32), i16 ≤ na_quarrels → na_quarrels < i16 + n9_2_18 → ∀ (H : Heap) (locs : List Loc) (ls : Array Slot), va_P D vwCl [(na 1, .inr (4, [.ref (na 4), .ref (na 5), .ref (na 6), .ref (na 7), .ref (na 8), .ref (na 9), .ref (na 10), .ref (na 11), .ref (na 12), .ref (na 13), .ref (na 14), .ref (na 15), .int (nI na_named), .int (nI na_houses), .int (nI na_quarrels), .int (nI na_cats), .int (nI na_grocers), .int na_gone, .int na_washes, .int na_goneCounts])), (ga 2, .inr (2, [.ref (ga 16), .ref (ga 17), .ref (ga 18), .ref (ga 19), .ref (ga 20), .int ga_over, .int ga_day, .int ga_rained, .int ga_purse, .int ga_bought, .int ga_washed, .int ga_swept, .int ga_melted])), (ga 19, .inl (kc 0, 8, .inl f17))] H → va_D A [(na 1, .inr (4, [.ref (na 4), .ref (na 5), .ref (na 6), .ref (na 7), .ref (na 8), .ref (na 9), .ref (na 10), .ref (na 11), .ref (na 12), .ref (na 13), .ref (na 14), .ref (na 15), .int (nI na_named), .int (nI na_houses), .int (nI na_quarrels), .int (nI na_cats), .int (nI na_grocers), .int na_gone, .int na_washes, .int na_goneCounts])), (ga 2, .inr (2, [.ref (ga 16), .ref (ga 17), .ref (ga 18), .ref (ga 19), .ref (ga 20), .int ga_over, .int ga_day, .int ga_rained, .int ga_purse, .int ga_bought, .int ga_washed, .int ga_swept, .int ga_melted])), (ga 19, .inl (kc 0, 8, .inl f17))] → va_S A s.heap H locs → lv_has ls 3 [(2, .int (nI i16)), (0, .ref (ga 2)), (1, .ref (na 1))] → W p l e (headSpec vs_countWar ({ frames := 1, cells := 0, slots := 0, locals := 21 })).room s m [.ref (ga 2), .ref (na 1)].toArray below meth c H locs 0 0 (MQ below (va_Qv (fun (_ : Unit) => True) (fun (_ : Unit) (t9 : State) => ∃ ga_war_n : Nat → Int32, va_P D vwCl [(na 1, .inr (4, [.ref (na 4), .ref (na 5), .ref (na 6), .ref (na 7), .ref (na 8), .ref (na 9), .ref (na 10), .ref (na 11), .ref (na 12), .ref (na 13), .ref (na 14), .ref (na 15), .int (nI na_named), .int (nI na_houses), .int (nI na_quarrels), .int (nI na_cats), .int (nI na_grocers), .int na_gone, .int na_washes, .int na_goneCounts])), (ga 2, .inr (2, [.ref (ga 16), .ref (ga 17), .ref (ga 18), .ref (ga 19), .ref (ga 20), .int ga_over, .int ga_day, .int ga_rained, .int ga_purse, .int ga_bought, .int ga_washed, .int ga_swept, .int ga_melted])), (ga 19, .inl (kc 0, 8, .inl ga_war_n))] t9.heap ∧ va_D A [(na 1, .inr (4, [.ref (na 4), .ref (na 5), .ref (na 6), .ref (na 7), .ref (na 8), .ref (na 9), .ref (na 10), .ref (na 11), .ref (na 12), .ref (na 13), .ref (na 14), .ref (na 15), .int (nI na_named), .int (nI na_houses), .int (nI na_quarrels), .int (nI na_cats), .int (nI na_grocers), .int na_gone, .int na_washes, .int na_goneCounts])), (ga 2, .inr (2, [.ref (ga 16), .ref (ga 17), .ref (ga 18), .ref (ga 19), .ref (ga 20), .int ga_over, .int ga_day, .int ga_rained, .int ga_purse, .int ga_bought, .int ga_washed, .int ga_swept, .int ga_melted])), (ga 19, .inl (kc 0, 8, .inl ga_war_n))]) A) [.ref (ga 2), .ref (na 1)].toArray s 0 0 A) (F0 m 2 ls []) := by
    intro n9_2_18
    induction n9_2_18 with
    | zero => intro i16 f17  h1 h2; exact absurd h2 (by omega)
    | succ n9_2_18 ih_n9_2_18 =>
      intro i16 f17  h1_n9_2_18 h2_n9_2_18 H locs ls hP hD hS hl
      refine lv_iload_n hx hb dX2_countWar_2 rfl (lv_at hl 0 rfl) ?_
      refine lv_aload_n hx hb dX2_countWar_3 rfl (lv_at hl 2 rfl) ?_
      refine va_getN (D := D) (ci := 4) (v := .int (nI na_quarrels)) (C := RX4) (T := TX4) (N := 20) hx hb hts is_countWar_X4 hown hK hP 0 rfl rfl 14 (by decide) (hE.nw 41 rfl) (fun _ h9 => h9) rfl dX2_countWar_4 ?_
      refine lv_icmp_ge (tgt := 37) hx hb dX2_countWar_7 (by decide) (fun c19 => ?_) (fun c19 => ?_)
      · have nc19 := (nI_leI (a := na_quarrels) (b := i16) (by omega) (by omega)).mp c19
        have hP9 := hP.sub (ws' := [(na 1, .inr (4, [.ref (na 4), .ref (na 5), .ref (na 6), .ref (na 7), .ref (na 8), .ref (na 9), .ref (na 10), .ref (na 11), .ref (na 12), .ref (na 13), .ref (na 14), .ref (na 15), .int (nI na_named), .int (nI na_houses), .int (nI na_quarrels), .int (nI na_cats), .int (nI na_grocers), .int na_gone, .int na_washes, .int na_goneCounts])), (ga 2, .inr (2, [.ref (ga 16), .ref (ga 17), .ref (ga 18), .ref (ga 19), .ref (ga 20), .int ga_over, .int ga_day, .int ga_rained, .int ga_purse, .int ga_bought, .int ga_washed, .int ga_swept, .int ga_melted])), (ga 19, .inl (kc 0, 8, .inl f17))]) [0, 1, 2] rfl
        have hD9 := hD.sub (ws' := [(na 1, .inr (4, [.ref (na 4), .ref (na 5), .ref (na 6), .ref (na 7), .ref (na 8), .ref (na 9), .ref (na 10), .ref (na 11), .ref (na 12), .ref (na 13), .ref (na 14), .ref (na 15), .int (nI na_named), .int (nI na_houses), .int (nI na_quarrels), .int (nI na_cats), .int (nI na_grocers), .int na_gone, .int na_washes, .int na_goneCounts])), (ga 2, .inr (2, [.ref (ga 16), .ref (ga 17), .ref (ga 18), .ref (ga 19), .ref (ga 20), .int ga_over, .int ga_day, .int ga_rained, .int ga_purse, .int ga_bought, .int ga_washed, .int ga_swept, .int ga_melted])), (ga 19, .inl (kc 0, 8, .inl f17))]) [0, 1, 2] (by decide) rfl
        exact W.vret hx hb hr (fun t9 ht hW => ⟨⟨(), rfl, trivial, f17, by rw [ht]; exact hP9, hD9⟩, hS.F ht⟩) hS.2.2 dX2_countWar_37
      · have nc19 := Nat.not_le.mp (fun q => c19 ((nI_leI (a := na_quarrels) (b := i16) (by omega) (by omega)).mpr q))
        refine lv_aload_n hx hb dX2_countWar_10 rfl (lv_at hl 1 rfl) ?_
        refine va_get (D := D) (ci := 2) (v := .int ga_over) (C := RX2) (T := TX2) (N := 13) hx hb hts is_countWar_X2 hown hK hP 1 rfl rfl 5 (by decide) (hts (.fieldLink RX2 31 "SaltStreet$Ground" "over" "I") (List.mem_of_getElem? (i := 1) rfl)) (fun _ h9 => h9) rfl dX2_countWar_11 ?_
        refine lv_iload_n hx hb dX2_countWar_14 rfl (lv_at hl 0 rfl) ?_
        have hPc := hP.sub (ws' := []) [] rfl
        have hDc := hD.sub (ws' := []) [] (by decide) rfl
        have hFc := va_free (wc := []) hD hS hA [] rfl
        refine va_calli (va_runSN (As := [.int ga_over, .int (nI i16)]) (rest := []) ⟨hx, hb, hml, hown, hts⟩ (s_has l D kc H.size ga_over (nI i16)) ⟨va_cnB 2 hts gs_countWar_70_s_has rfl rfl rfl (hE.nn 125 rfl) (hts (.initialized RX11) (List.mem_of_getElem? (i := 3) rfl)) (by decide +kernel) ⟨Nat.le_of_ble_eq_true rfl, Nat.le_of_ble_eq_true rfl⟩, (hts (.static yX11_has) (List.mem_of_getElem? (i := 4) rfl)), trivial⟩ (preS_ok hPc hDc hE) rfl rfl hl.1 rfl (lv_room (Nat.le_of_ble_eq_true rfl)) dX2_countWar_15 ⟨Nat.le_of_ble_eq_true rfl, Nat.le_of_ble_eq_true rfl⟩) hS (fun q _ h => hFc q h) hFc (fun r20 u9 t9 H locs ht hvm hw hB hz1 hk1 hS => ?_)
        obtain ⟨hP1, hD1⟩ := hB
        rw [ht] at hP1
        obtain ⟨hP, hD⟩ := va_join (wr := [(na 1, .inr (4, [.ref (na 4), .ref (na 5), .ref (na 6), .ref (na 7), .ref (na 8), .ref (na 9), .ref (na 10), .ref (na 11), .ref (na 12), .ref (na 13), .ref (na 14), .ref (na 15), .int (nI na_named), .int (nI na_houses), .int (nI na_quarrels), .int (nI na_cats), .int (nI na_grocers), .int na_gone, .int na_washes, .int na_goneCounts])), (ga 2, .inr (2, [.ref (ga 16), .ref (ga 17), .ref (ga 18), .ref (ga 19), .ref (ga 20), .int ga_over, .int ga_day, .int ga_rained, .int ga_purse, .int ga_bought, .int ga_washed, .int ga_swept, .int ga_melted])), (ga 19, .inl (kc 0, 8, .inl f17))]) (w1 := []) hP hD [] [0, 1, 2] rfl rfl (by decide) (by decide) hk1 hFc hP1 hD1
        have hP : va_P D vwCl [(na 1, .inr (4, [.ref (na 4), .ref (na 5), .ref (na 6), .ref (na 7), .ref (na 8), .ref (na 9), .ref (na 10), .ref (na 11), .ref (na 12), .ref (na 13), .ref (na 14), .ref (na 15), .int (nI na_named), .int (nI na_houses), .int (nI na_quarrels), .int (nI na_cats), .int (nI na_grocers), .int na_gone, .int na_washes, .int na_goneCounts])), (ga 2, .inr (2, [.ref (ga 16), .ref (ga 17), .ref (ga 18), .ref (ga 19), .ref (ga 20), .int ga_over, .int ga_day, .int ga_rained, .int ga_purse, .int ga_bought, .int ga_washed, .int ga_swept, .int ga_melted])), (ga 19, .inl (kc 0, 8, .inl f17))] H := hP
        have hD : va_D A [(na 1, .inr (4, [.ref (na 4), .ref (na 5), .ref (na 6), .ref (na 7), .ref (na 8), .ref (na 9), .ref (na 10), .ref (na 11), .ref (na 12), .ref (na 13), .ref (na 14), .ref (na 15), .int (nI na_named), .int (nI na_houses), .int (nI na_quarrels), .int (nI na_cats), .int (nI na_grocers), .int na_gone, .int na_washes, .int na_goneCounts])), (ga 2, .inr (2, [.ref (ga 16), .ref (ga 17), .ref (ga 18), .ref (ga 19), .ref (ga 20), .int ga_over, .int ga_day, .int ga_rained, .int ga_purse, .int ga_bought, .int ga_washed, .int ga_swept, .int ga_melted])), (ga 19, .inl (kc 0, 8, .inl f17))] := hD
        have h_r20 := hw
        refine lv_if_ne (tgt := 31) hx hb dX2_countWar_18 (by decide) (fun c21 => ?_) (fun c21 => ?_)
        · refine lv_iinc (v := (nI (i16 + 1))) (lv' := [(2, .int (nI (i16 + 1))), (0, .ref (ga 2)), (1, .ref (na 1))]) hx hb dX2_countWar_31 hl (k := 0) rfl (nI_1 _) (by decide) rfl (fun ls hl => ?_)
          refine lv_goto (tgt := 2) hx hb dX2_countWar_34 (by decide) ?_
          exact ih_n9_2_18 (i16 + 1) f17 (by omega) (by omega) _ _ ls hP hD hS (lv_sub hl [0, 1, 2] rfl)
        · refine lv_aload_n hx hb dX2_countWar_21 rfl (lv_at hl 1 rfl) ?_
          refine va_get (D := D) (ci := 2) (v := .ref (ga 19)) (C := RX2) (T := TX2) (N := 13) hx hb hts is_countWar_X2 hown hK hP 1 rfl rfl 3 (by decide) (hts (.fieldLink RX2 21 "SaltStreet$Ground" "war" "[I") (List.mem_of_getElem? (i := 5) rfl)) (fun _ h9 => h9) rfl dX2_countWar_22 ?_
          refine lv_iload_n hx hb dX2_countWar_25 rfl (lv_at hl 0 rfl) ?_
          refine lv_dup2_11 hx hb dX2_countWar_26 rfl rfl ?_
          refine va_iald hx hb hK hP 2 0 (f := f17) rfl rfl (vp_in_nI (by omega) (by decide)) dX2_countWar_27 ?_
          refine lv_topi (fun z22 _ => ?_)
          refine lv_iconst (v := 1) hx hb dX2_countWar_28 (by decide) ?_
          refine lv_iadd hx hb dX2_countWar_29 ?_
          refine lv_topi (fun z23 _ => ?_)
          refine va_iast hx hb hK hP hD hS 2 0 (f := f17) rfl rfl (vp_in_nI (by omega) (by decide)) dX2_countWar_30 (fun H locs hP hD hS => ?_)
          have hP : va_P D vwCl [(na 1, .inr (4, [.ref (na 4), .ref (na 5), .ref (na 6), .ref (na 7), .ref (na 8), .ref (na 9), .ref (na 10), .ref (na 11), .ref (na 12), .ref (na 13), .ref (na 14), .ref (na 15), .int (nI na_named), .int (nI na_houses), .int (nI na_quarrels), .int (nI na_cats), .int (nI na_grocers), .int na_gone, .int na_washes, .int na_goneCounts])), (ga 2, .inr (2, [.ref (ga 16), .ref (ga 17), .ref (ga 18), .ref (ga 19), .ref (ga 20), .int ga_over, .int ga_day, .int ga_rained, .int ga_purse, .int ga_bought, .int ga_washed, .int ga_swept, .int ga_melted])), (ga 19, .inl (kc 0, 8, .inl (upd f17 ((nI i16) : Int32).toNatClampNeg z23)))] H := hP
          have hD : va_D A [(na 1, .inr (4, [.ref (na 4), .ref (na 5), .ref (na 6), .ref (na 7), .ref (na 8), .ref (na 9), .ref (na 10), .ref (na 11), .ref (na 12), .ref (na 13), .ref (na 14), .ref (na 15), .int (nI na_named), .int (nI na_houses), .int (nI na_quarrels), .int (nI na_cats), .int (nI na_grocers), .int na_gone, .int na_washes, .int na_goneCounts])), (ga 2, .inr (2, [.ref (ga 16), .ref (ga 17), .ref (ga 18), .ref (ga 19), .ref (ga 20), .int ga_over, .int ga_day, .int ga_rained, .int ga_purse, .int ga_bought, .int ga_washed, .int ga_swept, .int ga_melted])), (ga 19, .inl (kc 0, 8, .inl (upd f17 ((nI i16) : Int32).toNatClampNeg z23)))] := hD
          generalize (upd f17 ((nI i16) : Int32).toNatClampNeg z23) = f24 at hP hD
          refine lv_iinc (v := (nI (i16 + 1))) (lv' := [(2, .int (nI (i16 + 1))), (0, .ref (ga 2)), (1, .ref (na 1))]) hx hb dX2_countWar_31 hl (k := 0) rfl (nI_1 _) (by decide) rfl (fun ls hl => ?_)
          refine lv_goto (tgt := 2) hx hb dX2_countWar_34 (by decide) ?_
          exact ih_n9_2_18 (i16 + 1) f24 (by omega) (by omega) _ _ ls hP hD hS (lv_sub hl [0, 1, 2] rfl)
  exact loop_n9_2_18 (na_quarrels + 1) 0 ga_war (by omega) (by omega) _ _ ls hP hD hS (lv_sub hl [0, 1, 2] rfl)
theorem dX4_withoutHope_0 : decode cX4_withoutHope 0 = .ok (.iconst 0, 1) := by decide +kernel
theorem dX4_withoutHope_1 : decode cX4_withoutHope 1 = .ok (.istore_n 1, 1) := by decide +kernel
theorem dX4_withoutHope_2 : decode cX4_withoutHope 2 = .ok (.iconst 0, 1) := by decide +kernel
theorem dX4_withoutHope_3 : decode cX4_withoutHope 3 = .ok (.istore_n 2, 1) := by decide +kernel
theorem dX4_withoutHope_4 : decode cX4_withoutHope 4 = .ok (.iload_n 2, 1) := by decide +kernel
theorem dX4_withoutHope_5 : decode cX4_withoutHope 5 = .ok (.aload_n 0, 1) := by decide +kernel
theorem dX4_withoutHope_6 : decode cX4_withoutHope 6 = .ok (.getfield 60, 3) := by decide +kernel
theorem dX4_withoutHope_9 : decode cX4_withoutHope 9 = .ok (.if_icmp .ge 33, 3) := by decide +kernel
theorem dX4_withoutHope_42 : decode cX4_withoutHope 42 = .ok (.iload_n 1, 1) := by decide +kernel
theorem dX4_withoutHope_43 : decode cX4_withoutHope 43 = .ok (.ireturn, 1) := by decide +kernel
theorem dX4_withoutHope_12 : decode cX4_withoutHope 12 = .ok (.aload_n 0, 1) := by decide +kernel
theorem dX4_withoutHope_13 : decode cX4_withoutHope 13 = .ok (.getfield 75, 3) := by decide +kernel
theorem dX4_withoutHope_16 : decode cX4_withoutHope 16 = .ok (.ifCond .ne 26, 3) := by decide +kernel
theorem dX4_withoutHope_19 : decode cX4_withoutHope 19 = .ok (.aload_n 0, 1) := by decide +kernel
theorem dX4_withoutHope_20 : decode cX4_withoutHope 20 = .ok (.iload_n 2, 1) := by decide +kernel
theorem dX4_withoutHope_21 : decode cX4_withoutHope 21 = .ok (.invokevirtual 89, 3) := by decide +kernel
theorem dX4_withoutHope_24 : decode cX4_withoutHope 24 = .ok (.ifCond .eq 12, 3) := by decide +kernel
theorem dX4_withoutHope_36 : decode cX4_withoutHope 36 = .ok (.iinc 2 1, 3) := by decide +kernel
theorem dX4_withoutHope_39 : decode cX4_withoutHope 39 = .ok (.goto (-35), 3) := by decide +kernel
theorem dX4_withoutHope_27 : decode cX4_withoutHope 27 = .ok (.iload_n 1, 1) := by decide +kernel
theorem dX4_withoutHope_28 : decode cX4_withoutHope 28 = .ok (.aload_n 0, 1) := by decide +kernel
theorem dX4_withoutHope_29 : decode cX4_withoutHope 29 = .ok (.getfield 31, 3) := by decide +kernel
theorem dX4_withoutHope_32 : decode cX4_withoutHope 32 = .ok (.iload_n 2, 1) := by decide +kernel
theorem dX4_withoutHope_33 : decode cX4_withoutHope 33 = .ok (.iaload, 1) := by decide +kernel
theorem dX4_withoutHope_34 : decode cX4_withoutHope 34 = .ok (.ior, 1) := by decide +kernel
theorem dX4_withoutHope_35 : decode cX4_withoutHope 35 = .ok (.istore_n 1, 1) := by decide +kernel
def vds_withoutHope : List Cond := [.code yX4_withoutHope cX4_withoutHope 3 (some .int), .fieldLink RX4 60 "SaltStreet$Plan" "houses" "I", .fieldLink RX4 75 "SaltStreet$Plan" "goneCounts" "Z", .methodLink RX4 89 yX4_isGone, .code yX4_isGone cX4_isGone 2 (some .boolean), .fieldLink RX4 72 "SaltStreet$Plan" "gone" "I", .instanceMethod yX4_isGone, .selects RX4 yX4_isGone yX4_isGone, .initialized RX4, .fieldLink RX4 31 "SaltStreet$Plan" "quarrelsAt" "[I"]
def vs_withoutHope : List Cond := vds_withoutHope ++ (wsX40 ++ ([] : List Cond))
theorem is_withoutHope_X4 : ∀ w ∈ wsX40, w ∈ vs_withoutHope := fun _ h => List.mem_append_right _ (List.mem_append_left _ h)
set_option maxRecDepth 20000 in
theorem gs_withoutHope_89_s_isGone : GoodIn vs_withoutHope (wsV RX4 89 RX4 yX4_isGone vs_isGone) := (goodIn_app (goodIn_r _ [3, 6, 7, 8] rfl (by decide +kernel)) (goodIn_app (goodIn_r vds_isGone [4, 5] rfl (by decide +kernel)) (goodIn_app (goodIn_sub is_withoutHope_X4 gdX4) goodIn_nil)))
set_option maxHeartbeats 4000000 in
set_option maxRecDepth 100000 in
theorem s_withoutHope (l : Launch) (D : va_G) (kc : Nat → ClassId) (sz : Nat) (na : Nat → Nat) (na_named : Nat) (na_houses : Nat) (na_quarrels : Nat) (na_cats : Nat) (na_grocers : Nat) (na_gone : Int32) (na_washes : Int32) (na_goneCounts : Int32) (na_quarrelsAt : Nat → Int32) (h_na_named : na_named ≤ 24) (h_na_houses : na_houses ≤ 8) (h_na_quarrels : na_quarrels ≤ 8) (h_na_cats : na_cats ≤ 4) (h_na_grocers : na_grocers ≤ 4) (h_na_goneCounts : na_goneCounts = 0 ∨ na_goneCounts = 1) : Met l yX4_withoutHope vs_withoutHope ({ frames := 1, cells := 0, slots := 0, locals := 21 }) (va_Pc [.ref (na 1)] (wPre D kc [(na 1, .inr (4, [.ref (na 4), .ref (na 5), .ref (na 6), .ref (na 7), .ref (na 8), .ref (na 9), .ref (na 10), .ref (na 11), .ref (na 12), .ref (na 13), .ref (na 14), .ref (na 15), .int (nI na_named), .int (nI na_houses), .int (nI na_quarrels), .int (nI na_cats), .int (nI na_grocers), .int na_gone, .int na_washes, .int na_goneCounts])), (na 10, .inl (kc 0, 8, .inl na_quarrelsAt))] sz)) (va_Qi (fun (r : Int32) (_ : Unit) => True) (fun (_ : Unit) (t9 : State) => va_P D vwCl [(na 1, .inr (4, [.ref (na 4), .ref (na 5), .ref (na 6), .ref (na 7), .ref (na 8), .ref (na 9), .ref (na 10), .ref (na 11), .ref (na 12), .ref (na 13), .ref (na 14), .ref (na 15), .int (nI na_named), .int (nI na_houses), .int (nI na_quarrels), .int (nI na_cats), .int (nI na_grocers), .int na_gone, .int na_washes, .int na_goneCounts])), (na 10, .inl (kc 0, 8, .inl na_quarrelsAt))] t9.heap ∧ va_D (va_A [(na 1, .inr (4, [.ref (na 4), .ref (na 5), .ref (na 6), .ref (na 7), .ref (na 8), .ref (na 9), .ref (na 10), .ref (na 11), .ref (na 12), .ref (na 13), .ref (na 14), .ref (na 15), .int (nI na_named), .int (nI na_houses), .int (nI na_quarrels), .int (nI na_cats), .int (nI na_grocers), .int na_gone, .int na_washes, .int na_goneCounts])), (na 10, .inl (kc 0, 8, .inl na_quarrelsAt))] sz) [(na 1, .inr (4, [.ref (na 4), .ref (na 5), .ref (na 6), .ref (na 7), .ref (na 8), .ref (na 9), .ref (na 10), .ref (na 11), .ref (na 12), .ref (na 13), .ref (na 14), .ref (na 15), .int (nI na_named), .int (nI na_houses), .int (nI na_quarrels), .int (nI na_cats), .int (nI na_grocers), .int na_gone, .int na_washes, .int na_goneCounts])), (na 10, .inl (kc 0, 8, .inl na_quarrelsAt))]) (va_A [(na 1, .inr (4, [.ref (na 4), .ref (na 5), .ref (na 6), .ref (na 7), .ref (na 8), .ref (na 9), .ref (na 10), .ref (na 11), .ref (na 12), .ref (na 13), .ref (na 14), .ref (na 15), .int (nI na_named), .int (nI na_houses), .int (nI na_quarrels), .int (nI na_cats), .int (nI na_grocers), .int na_gone, .int na_washes, .int na_goneCounts])), (na 10, .inl (kc 0, 8, .inl na_quarrelsAt))] sz)) 0 0 (va_A [(na 1, .inr (4, [.ref (na 4), .ref (na 5), .ref (na 6), .ref (na 7), .ref (na 8), .ref (na 9), .ref (na 10), .ref (na 11), .ref (na 12), .ref (na 13), .ref (na 14), .ref (na 15), .int (nI na_named), .int (nI na_houses), .int (nI na_quarrels), .int (nI na_cats), .int (nI na_grocers), .int na_gone, .int na_washes, .int na_goneCounts])), (na 10, .inl (kc 0, 8, .inl na_quarrelsAt))] sz) := by
  refine Met.ofW (cc := cX4_withoutHope) (maxL := 3) (ret := (some .int)) (by decide) rfl ?_
  intro p e s m args below meth c s₁ B hml hv
  obtain ⟨rfl, hsz, hP, hE, hD0⟩ := hv
  have hx := B.exec
  have hb := B.bytes
  have hr := B.returns
  have hts := atoms_spec (ws := vs_withoutHope) B.pre
  have hown : s.vm.findClass RX4 = some m.cls := findClass_of_methodNamed B.named
  have hlocks := B.notSynchronized
  subst hsz
  have hD := hD0.self (sz := s.heap.size)
  generalize hAe : va_A [(na 1, .inr (4, [.ref (na 4), .ref (na 5), .ref (na 6), .ref (na 7), .ref (na 8), .ref (na 9), .ref (na 10), .ref (na 11), .ref (na 12), .ref (na 13), .ref (na 14), .ref (na 15), .int (nI na_named), .int (nI na_houses), .int (nI na_quarrels), .int (nI na_cats), .int (nI na_grocers), .int na_gone, .int na_washes, .int na_goneCounts])), (na 10, .inl (kc 0, 8, .inl na_quarrelsAt))] s.heap.size = A at hD ⊢
  have hA : ∀ q : Nat, s.heap.size ≤ q → A q := fun q h => by rw [← hAe]; exact Or.inr h
  have hS : va_S A s.heap s.heap [] := va_S.rf
  have hK := hE.1
  have hP : va_P D vwCl [(na 1, .inr (4, [.ref (na 4), .ref (na 5), .ref (na 6), .ref (na 7), .ref (na 8), .ref (na 9), .ref (na 10), .ref (na 11), .ref (na 12), .ref (na 13), .ref (na 14), .ref (na 15), .int (nI na_named), .int (nI na_houses), .int (nI na_quarrels), .int (nI na_cats), .int (nI na_grocers), .int na_gone, .int na_washes, .int na_goneCounts])), (na 10, .inl (kc 0, 8, .inl na_quarrelsAt))] s.heap := hP
  have hl := lv_entry ([.ref (na 1)]) (n := 3) (Nat.le_of_ble_eq_true rfl)
  rw [lg_entry_eq]
  generalize (lg_sl ([.ref (na 1)]) ++ List.replicate (3 - (lg_sl ([.ref (na 1)])).length) Slot.unset).toArray = ls at hl ⊢
  have hl : lv_has ls 3 [(0, .ref (na 1))] := hl
  refine lv_iconst (v := 0) hx hb dX4_withoutHope_0 (by decide) ?_
  refine lv_istore_n (lv' := [(1, .int 0), (0, .ref (na 1))]) hx hb dX4_withoutHope_1 rfl hl (by decide) rfl (fun ls hl => ?_)
  refine lv_iconst (v := 0) hx hb dX4_withoutHope_2 (by decide) ?_
  refine lv_istore_n (lv' := [(2, .int 0), (1, .int 0), (0, .ref (na 1))]) hx hb dX4_withoutHope_3 rfl hl (by decide) rfl (fun ls hl => ?_)
  have loop_n9_4_18 : ∀ (n9_4_18 : Nat) (i16 : Nat) (z17 : Int32), i16 ≤ na_houses → na_houses < i16 + n9_4_18 → ∀ (H : Heap) (locs : List Loc) (ls : Array Slot), va_P D vwCl [(na 1, .inr (4, [.ref (na 4), .ref (na 5), .ref (na 6), .ref (na 7), .ref (na 8), .ref (na 9), .ref (na 10), .ref (na 11), .ref (na 12), .ref (na 13), .ref (na 14), .ref (na 15), .int (nI na_named), .int (nI na_houses), .int (nI na_quarrels), .int (nI na_cats), .int (nI na_grocers), .int na_gone, .int na_washes, .int na_goneCounts])), (na 10, .inl (kc 0, 8, .inl na_quarrelsAt))] H → va_D A [(na 1, .inr (4, [.ref (na 4), .ref (na 5), .ref (na 6), .ref (na 7), .ref (na 8), .ref (na 9), .ref (na 10), .ref (na 11), .ref (na 12), .ref (na 13), .ref (na 14), .ref (na 15), .int (nI na_named), .int (nI na_houses), .int (nI na_quarrels), .int (nI na_cats), .int (nI na_grocers), .int na_gone, .int na_washes, .int na_goneCounts])), (na 10, .inl (kc 0, 8, .inl na_quarrelsAt))] → va_S A s.heap H locs → lv_has ls 3 [(2, .int (nI i16)), (1, .int z17), (0, .ref (na 1))] → W p l e (headSpec vs_withoutHope ({ frames := 1, cells := 0, slots := 0, locals := 21 })).room s m [.ref (na 1)].toArray below meth c H locs 0 0 (MQ below (va_Qi (fun (r : Int32) (_ : Unit) => True) (fun (_ : Unit) (t9 : State) => va_P D vwCl [(na 1, .inr (4, [.ref (na 4), .ref (na 5), .ref (na 6), .ref (na 7), .ref (na 8), .ref (na 9), .ref (na 10), .ref (na 11), .ref (na 12), .ref (na 13), .ref (na 14), .ref (na 15), .int (nI na_named), .int (nI na_houses), .int (nI na_quarrels), .int (nI na_cats), .int (nI na_grocers), .int na_gone, .int na_washes, .int na_goneCounts])), (na 10, .inl (kc 0, 8, .inl na_quarrelsAt))] t9.heap ∧ va_D A [(na 1, .inr (4, [.ref (na 4), .ref (na 5), .ref (na 6), .ref (na 7), .ref (na 8), .ref (na 9), .ref (na 10), .ref (na 11), .ref (na 12), .ref (na 13), .ref (na 14), .ref (na 15), .int (nI na_named), .int (nI na_houses), .int (nI na_quarrels), .int (nI na_cats), .int (nI na_grocers), .int na_gone, .int na_washes, .int na_goneCounts])), (na 10, .inl (kc 0, 8, .inl na_quarrelsAt))]) A) [.ref (na 1)].toArray s 0 0 A) (F0 m 4 ls []) := by
    intro n9_4_18
    induction n9_4_18 with
    | zero => intro i16 z17  h1 h2; exact absurd h2 (by omega)
    | succ n9_4_18 ih_n9_4_18 =>
      intro i16 z17  h1_n9_4_18 h2_n9_4_18 H locs ls hP hD hS hl
      refine lv_iload_n hx hb dX4_withoutHope_4 rfl (lv_at hl 0 rfl) ?_
      refine lv_aload_n hx hb dX4_withoutHope_5 rfl (lv_at hl 2 rfl) ?_
      refine va_get (D := D) (ci := 4) (v := .int (nI na_houses)) (C := RX4) (T := TX4) (N := 20) hx hb hts is_withoutHope_X4 hown hK hP 0 rfl rfl 13 (by decide) (hts (.fieldLink RX4 60 "SaltStreet$Plan" "houses" "I") (List.mem_of_getElem? (i := 1) rfl)) (fun _ h9 => h9) rfl dX4_withoutHope_6 ?_
      refine lv_icmp_ge (tgt := 42) hx hb dX4_withoutHope_9 (by decide) (fun c19 => ?_) (fun c19 => ?_)
      · have nc19 := (nI_leI (a := na_houses) (b := i16) (by omega) (by omega)).mp c19
        refine lv_iload_n hx hb dX4_withoutHope_42 rfl (lv_at hl 1 rfl) ?_
        have hP9 := hP.sub (ws' := [(na 1, .inr (4, [.ref (na 4), .ref (na 5), .ref (na 6), .ref (na 7), .ref (na 8), .ref (na 9), .ref (na 10), .ref (na 11), .ref (na 12), .ref (na 13), .ref (na 14), .ref (na 15), .int (nI na_named), .int (nI na_houses), .int (nI na_quarrels), .int (nI na_cats), .int (nI na_grocers), .int na_gone, .int na_washes, .int na_goneCounts])), (na 10, .inl (kc 0, 8, .inl na_quarrelsAt))]) [0, 1] rfl
        have hD9 := hD.sub (ws' := [(na 1, .inr (4, [.ref (na 4), .ref (na 5), .ref (na 6), .ref (na 7), .ref (na 8), .ref (na 9), .ref (na 10), .ref (na 11), .ref (na 12), .ref (na 13), .ref (na 14), .ref (na 15), .int (nI na_named), .int (nI na_houses), .int (nI na_quarrels), .int (nI na_cats), .int (nI na_grocers), .int na_gone, .int na_washes, .int na_goneCounts])), (na 10, .inl (kc 0, 8, .inl na_quarrelsAt))]) [0, 1] (by decide) rfl
        exact W.iret (v := z17) hx hb hr (fun t9 ht hW => ⟨⟨z17, (), rfl, trivial, by rw [ht]; exact hP9, hD9⟩, hS.F ht⟩) hS.2.2 dX4_withoutHope_43
      · have nc19 := Nat.not_le.mp (fun q => c19 ((nI_leI (a := na_houses) (b := i16) (by omega) (by omega)).mpr q))
        refine lv_aload_n hx hb dX4_withoutHope_12 rfl (lv_at hl 2 rfl) ?_
        refine va_get (D := D) (ci := 4) (v := .int na_goneCounts) (C := RX4) (T := TX4) (N := 20) hx hb hts is_withoutHope_X4 hown hK hP 0 rfl rfl 19 (by decide) (hts (.fieldLink RX4 75 "SaltStreet$Plan" "goneCounts" "Z") (List.mem_of_getElem? (i := 2) rfl)) (fun _ h9 => h9) rfl dX4_withoutHope_13 ?_
        refine lv_if_ne (tgt := 42) hx hb dX4_withoutHope_16 (by decide) (fun c20 => ?_) (fun c20 => ?_)
        · refine lv_iload_n hx hb dX4_withoutHope_42 rfl (lv_at hl 1 rfl) ?_
          have hP9 := hP.sub (ws' := [(na 1, .inr (4, [.ref (na 4), .ref (na 5), .ref (na 6), .ref (na 7), .ref (na 8), .ref (na 9), .ref (na 10), .ref (na 11), .ref (na 12), .ref (na 13), .ref (na 14), .ref (na 15), .int (nI na_named), .int (nI na_houses), .int (nI na_quarrels), .int (nI na_cats), .int (nI na_grocers), .int na_gone, .int na_washes, .int na_goneCounts])), (na 10, .inl (kc 0, 8, .inl na_quarrelsAt))]) [0, 1] rfl
          have hD9 := hD.sub (ws' := [(na 1, .inr (4, [.ref (na 4), .ref (na 5), .ref (na 6), .ref (na 7), .ref (na 8), .ref (na 9), .ref (na 10), .ref (na 11), .ref (na 12), .ref (na 13), .ref (na 14), .ref (na 15), .int (nI na_named), .int (nI na_houses), .int (nI na_quarrels), .int (nI na_cats), .int (nI na_grocers), .int na_gone, .int na_washes, .int na_goneCounts])), (na 10, .inl (kc 0, 8, .inl na_quarrelsAt))]) [0, 1] (by decide) rfl
          exact W.iret (v := z17) hx hb hr (fun t9 ht hW => ⟨⟨z17, (), rfl, trivial, by rw [ht]; exact hP9, hD9⟩, hS.F ht⟩) hS.2.2 dX4_withoutHope_43
        · refine lv_aload_n hx hb dX4_withoutHope_19 rfl (lv_at hl 2 rfl) ?_
          refine lv_iload_n hx hb dX4_withoutHope_20 rfl (lv_at hl 0 rfl) ?_
          have hPc := hP.sub (ws' := [(na 1, .inr (4, [.ref (na 4), .ref (na 5), .ref (na 6), .ref (na 7), .ref (na 8), .ref (na 9), .ref (na 10), .ref (na 11), .ref (na 12), .ref (na 13), .ref (na 14), .ref (na 15), .int (nI na_named), .int (nI na_houses), .int (nI na_quarrels), .int (nI na_cats), .int (nI na_grocers), .int na_gone, .int na_washes, .int na_goneCounts]))]) [0] rfl
          have hDc := hD.sub (ws' := [(na 1, .inr (4, [.ref (na 4), .ref (na 5), .ref (na 6), .ref (na 7), .ref (na 8), .ref (na 9), .ref (na 10), .ref (na 11), .ref (na 12), .ref (na 13), .ref (na 14), .ref (na 15), .int (nI na_named), .int (nI na_houses), .int (nI na_quarrels), .int (nI na_cats), .int (nI na_grocers), .int na_gone, .int na_washes, .int na_goneCounts]))]) [0] (by decide) rfl
          have hFc := va_free (wc := [(na 1, .inr (4, [.ref (na 4), .ref (na 5), .ref (na 6), .ref (na 7), .ref (na 8), .ref (na 9), .ref (na 10), .ref (na 11), .ref (na 12), .ref (na 13), .ref (na 14), .ref (na 15), .int (nI na_named), .int (nI na_houses), .int (nI na_quarrels), .int (nI na_cats), .int (nI na_grocers), .int na_gone, .int na_washes, .int na_goneCounts]))]) hD hS hA [0] rfl
          refine va_calli (va_runV (As := [.int (nI i16)]) (rest := []) ⟨hx, hb, hml, hown, hts⟩ (s_isGone l D kc H.size na na_named na_houses na_quarrels na_cats na_grocers na_gone na_washes na_goneCounts (nI i16) (by omega) (by omega) (by omega) (by omega) (by omega) h_na_goneCounts) (cwV 1 hts gs_withoutHope_89_s_isGone rfl rfl rfl (by decide +kernel) ⟨Nat.le_of_ble_eq_true rfl, Nat.le_of_ble_eq_true rfl⟩) (preV_ok hPc hDc hE (ci := 4) (q0 := 0) rfl rfl) rfl rfl hl.1 rfl (lv_room (Nat.le_of_ble_eq_true rfl)) dX4_withoutHope_21 ⟨Nat.le_of_ble_eq_true rfl, Nat.le_of_ble_eq_true rfl⟩) hS (fun q _ h => hFc q h) hFc (fun r21 u9 t9 H locs ht hvm hw hB hz1 hk1 hS => ?_)
          obtain ⟨hP1, hD1⟩ := hB
          rw [ht] at hP1
          obtain ⟨hP, hD⟩ := va_join (wr := [(na 10, .inl (kc 0, 8, .inl na_quarrelsAt))]) (w1 := [(na 1, .inr (4, [.ref (na 4), .ref (na 5), .ref (na 6), .ref (na 7), .ref (na 8), .ref (na 9), .ref (na 10), .ref (na 11), .ref (na 12), .ref (na 13), .ref (na 14), .ref (na 15), .int (nI na_named), .int (nI na_houses), .int (nI na_quarrels), .int (nI na_cats), .int (nI na_grocers), .int na_gone, .int na_washes, .int na_goneCounts]))]) hP hD [0] [1] rfl rfl (by decide) (by decide) hk1 hFc hP1 hD1
          have hP : va_P D vwCl [(na 10, .inl (kc 0, 8, .inl na_quarrelsAt)), (na 1, .inr (4, [.ref (na 4), .ref (na 5), .ref (na 6), .ref (na 7), .ref (na 8), .ref (na 9), .ref (na 10), .ref (na 11), .ref (na 12), .ref (na 13), .ref (na 14), .ref (na 15), .int (nI na_named), .int (nI na_houses), .int (nI na_quarrels), .int (nI na_cats), .int (nI na_grocers), .int na_gone, .int na_washes, .int na_goneCounts]))] H := hP
          have hD : va_D A [(na 10, .inl (kc 0, 8, .inl na_quarrelsAt)), (na 1, .inr (4, [.ref (na 4), .ref (na 5), .ref (na 6), .ref (na 7), .ref (na 8), .ref (na 9), .ref (na 10), .ref (na 11), .ref (na 12), .ref (na 13), .ref (na 14), .ref (na 15), .int (nI na_named), .int (nI na_houses), .int (nI na_quarrels), .int (nI na_cats), .int (nI na_grocers), .int na_gone, .int na_washes, .int na_goneCounts]))] := hD
          have h_r21 := hw
          refine lv_if_eq (tgt := 36) hx hb dX4_withoutHope_24 (by decide) (fun c22 => ?_) (fun c22 => ?_)
          · refine lv_iinc (v := (nI (i16 + 1))) (lv' := [(2, .int (nI (i16 + 1))), (1, .int z17), (0, .ref (na 1))]) hx hb dX4_withoutHope_36 hl (k := 0) rfl (nI_1 _) (by decide) rfl (fun ls hl => ?_)
            refine lv_goto (tgt := 4) hx hb dX4_withoutHope_39 (by decide) ?_
            exact ih_n9_4_18 (i16 + 1) z17 (by omega) (by omega) _ _ ls (hP.sub [1, 0] rfl) (hD.sub [1, 0] (by decide) rfl) hS (lv_sub hl [0, 1, 2] rfl)
          · refine lv_iload_n hx hb dX4_withoutHope_27 rfl (lv_at hl 1 rfl) ?_
            refine lv_aload_n hx hb dX4_withoutHope_28 rfl (lv_at hl 2 rfl) ?_
            refine va_get (D := D) (ci := 4) (v := .ref (na 10)) (C := RX4) (T := TX4) (N := 20) hx hb hts is_withoutHope_X4 hown hK hP 1 rfl rfl 6 (by decide) (hts (.fieldLink RX4 31 "SaltStreet$Plan" "quarrelsAt" "[I") (List.mem_of_getElem? (i := 9) rfl)) (fun _ h9 => h9) rfl dX4_withoutHope_29 ?_
            refine lv_iload_n hx hb dX4_withoutHope_32 rfl (lv_at hl 0 rfl) ?_
            refine va_iald hx hb hK hP 0 0 (f := na_quarrelsAt) rfl rfl (vp_in_nI (by omega) (by decide)) dX4_withoutHope_33 ?_
            refine lv_topi (fun z23 _ => ?_)
            refine lv_ior hx hb dX4_withoutHope_34 ?_
            refine lv_topi (fun z24 _ => ?_)
            refine lv_istore_n (lv' := [(1, .int z24), (2, .int (nI i16)), (0, .ref (na 1))]) hx hb dX4_withoutHope_35 rfl hl (by decide) rfl (fun ls hl => ?_)
            refine lv_iinc (v := (nI (i16 + 1))) (lv' := [(2, .int (nI (i16 + 1))), (1, .int z24), (0, .ref (na 1))]) hx hb dX4_withoutHope_36 hl (k := 1) rfl (nI_1 _) (by decide) rfl (fun ls hl => ?_)
            refine lv_goto (tgt := 4) hx hb dX4_withoutHope_39 (by decide) ?_
            exact ih_n9_4_18 (i16 + 1) z24 (by omega) (by omega) _ _ ls (hP.sub [1, 0] rfl) (hD.sub [1, 0] (by decide) rfl) hS (lv_sub hl [0, 1, 2] rfl)
  exact loop_n9_4_18 (na_houses + 1) 0 0 (by omega) (by omega) _ _ ls hP hD hS (lv_sub hl [0, 1, 2] rfl)
theorem dX4_reachedFrom_0 : decode cX4_reachedFrom 0 = .ok (.iconst 1, 1) := by decide +kernel
theorem dX4_reachedFrom_1 : decode cX4_reachedFrom 1 = .ok (.iload_n 1, 1) := by decide +kernel
theorem dX4_reachedFrom_2 : decode cX4_reachedFrom 2 = .ok (.ishl, 1) := by decide +kernel
theorem dX4_reachedFrom_3 : decode cX4_reachedFrom 3 = .ok (.istore_n 2, 1) := by decide +kernel
theorem dX4_reachedFrom_4 : decode cX4_reachedFrom 4 = .ok (.iconst 0, 1) := by decide +kernel
theorem dX4_reachedFrom_5 : decode cX4_reachedFrom 5 = .ok (.istore_n 3, 1) := by decide +kernel
theorem dX4_reachedFrom_6 : decode cX4_reachedFrom 6 = .ok (.iload_n 3, 1) := by decide +kernel
theorem dX4_reachedFrom_7 : decode cX4_reachedFrom 7 = .ok (.bipush 8, 2) := by decide +kernel
theorem dX4_reachedFrom_9 : decode cX4_reachedFrom 9 = .ok (.if_icmp .ge 53, 3) := by decide +kernel
theorem dX4_reachedFrom_62 : decode cX4_reachedFrom 62 = .ok (.iload_n 2, 1) := by decide +kernel
theorem dX4_reachedFrom_63 : decode cX4_reachedFrom 63 = .ok (.ireturn, 1) := by decide +kernel
theorem dX4_reachedFrom_12 : decode cX4_reachedFrom 12 = .ok (.iconst 0, 1) := by decide +kernel
theorem dX4_reachedFrom_13 : decode cX4_reachedFrom 13 = .ok (.istore 4, 2) := by decide +kernel
theorem dX4_reachedFrom_15 : decode cX4_reachedFrom 15 = .ok (.iload 4, 2) := by decide +kernel
theorem dX4_reachedFrom_17 : decode cX4_reachedFrom 17 = .ok (.aload_n 0, 1) := by decide +kernel
theorem dX4_reachedFrom_18 : decode cX4_reachedFrom 18 = .ok (.getfield 66, 3) := by decide +kernel
theorem dX4_reachedFrom_21 : decode cX4_reachedFrom 21 = .ok (.if_icmp .ge 35, 3) := by decide +kernel
theorem dX4_reachedFrom_56 : decode cX4_reachedFrom 56 = .ok (.iinc 3 1, 3) := by decide +kernel
theorem dX4_reachedFrom_59 : decode cX4_reachedFrom 59 = .ok (.goto (-53), 3) := by decide +kernel
theorem dX4_reachedFrom_24 : decode cX4_reachedFrom 24 = .ok (.iload_n 2, 1) := by decide +kernel
theorem dX4_reachedFrom_25 : decode cX4_reachedFrom 25 = .ok (.aload_n 0, 1) := by decide +kernel
theorem dX4_reachedFrom_26 : decode cX4_reachedFrom 26 = .ok (.getfield 34, 3) := by decide +kernel
theorem dX4_reachedFrom_29 : decode cX4_reachedFrom 29 = .ok (.iload 4, 2) := by decide +kernel
theorem dX4_reachedFrom_31 : decode cX4_reachedFrom 31 = .ok (.iaload, 1) := by decide +kernel
theorem dX4_reachedFrom_32 : decode cX4_reachedFrom 32 = .ok (.invokestatic 93, 3) := by decide +kernel
theorem dX4_reachedFrom_35 : decode cX4_reachedFrom 35 = .ok (.ifCond .eq 15, 3) := by decide +kernel
theorem dX4_reachedFrom_50 : decode cX4_reachedFrom 50 = .ok (.iinc 4 1, 3) := by decide +kernel
theorem dX4_reachedFrom_53 : decode cX4_reachedFrom 53 = .ok (.goto (-38), 3) := by decide +kernel
theorem dX4_reachedFrom_38 : decode cX4_reachedFrom 38 = .ok (.iload_n 2, 1) := by decide +kernel
theorem dX4_reachedFrom_39 : decode cX4_reachedFrom 39 = .ok (.iconst 1, 1) := by decide +kernel
theorem dX4_reachedFrom_40 : decode cX4_reachedFrom 40 = .ok (.aload_n 0, 1) := by decide +kernel
theorem dX4_reachedFrom_41 : decode cX4_reachedFrom 41 = .ok (.getfield 37, 3) := by decide +kernel
theorem dX4_reachedFrom_44 : decode cX4_reachedFrom 44 = .ok (.iload 4, 2) := by decide +kernel
theorem dX4_reachedFrom_46 : decode cX4_reachedFrom 46 = .ok (.iaload, 1) := by decide +kernel
theorem dX4_reachedFrom_47 : decode cX4_reachedFrom 47 = .ok (.ishl, 1) := by decide +kernel
theorem dX4_reachedFrom_48 : decode cX4_reachedFrom 48 = .ok (.ior, 1) := by decide +kernel
theorem dX4_reachedFrom_49 : decode cX4_reachedFrom 49 = .ok (.istore_n 2, 1) := by decide +kernel
def vds_reachedFrom : List Cond := [.code yX4_reachedFrom cX4_reachedFrom 5 (some .int), .fieldLink RX4 66 "SaltStreet$Plan" "cats" "I", .fieldLink RX4 34 "SaltStreet$Plan" "from" "[I", .code yX11_has cX11_has 2 (some .boolean), .initialized RX11, .static yX11_has, .fieldLink RX4 37 "SaltStreet$Plan" "to" "[I"]
def vs_reachedFrom : List Cond := vds_reachedFrom ++ (wsX40 ++ ([] : List Cond))
theorem is_reachedFrom_X4 : ∀ w ∈ wsX40, w ∈ vs_reachedFrom := fun _ h => List.mem_append_right _ (List.mem_append_left _ h)
set_option maxRecDepth 20000 in
theorem gs_reachedFrom_93_s_has : GoodIn vs_reachedFrom vs_has := (goodIn_app (goodIn_r vds_has [3] rfl (by decide +kernel)) goodIn_nil)
set_option maxHeartbeats 4000000 in
set_option maxRecDepth 100000 in
theorem s_reachedFrom (l : Launch) (D : va_G) (kc : Nat → ClassId) (sz : Nat) (na : Nat → Nat) (na_named : Nat) (na_houses : Nat) (na_quarrels : Nat) (na_cats : Nat) (na_grocers : Nat) (na_gone : Int32) (na_washes : Int32) (na_goneCounts : Int32) (na_from : Nat → Int32) (na_to : Nat → Int32) (a0 : Int32) (h_na_named : na_named ≤ 24) (h_na_houses : na_houses ≤ 8) (h_na_quarrels : na_quarrels ≤ 8) (h_na_cats : na_cats ≤ 4) (h_na_grocers : na_grocers ≤ 4) (h_na_goneCounts : na_goneCounts = 0 ∨ na_goneCounts = 1) (h_na_from : R8 na_from) (h_na_to : R8 na_to) : Met l yX4_reachedFrom vs_reachedFrom ({ frames := 1, cells := 0, slots := 0, locals := 21 }) (va_Pc [.ref (na 1), .int a0] (wPre D kc [(na 1, .inr (4, [.ref (na 4), .ref (na 5), .ref (na 6), .ref (na 7), .ref (na 8), .ref (na 9), .ref (na 10), .ref (na 11), .ref (na 12), .ref (na 13), .ref (na 14), .ref (na 15), .int (nI na_named), .int (nI na_houses), .int (nI na_quarrels), .int (nI na_cats), .int (nI na_grocers), .int na_gone, .int na_washes, .int na_goneCounts])), (na 11, .inl (kc 0, 4, .inl na_from)), (na 12, .inl (kc 0, 4, .inl na_to))] sz)) (va_Qi (fun (r : Int32) (_ : Unit) => True) (fun (_ : Unit) (t9 : State) => va_P D vwCl [(na 1, .inr (4, [.ref (na 4), .ref (na 5), .ref (na 6), .ref (na 7), .ref (na 8), .ref (na 9), .ref (na 10), .ref (na 11), .ref (na 12), .ref (na 13), .ref (na 14), .ref (na 15), .int (nI na_named), .int (nI na_houses), .int (nI na_quarrels), .int (nI na_cats), .int (nI na_grocers), .int na_gone, .int na_washes, .int na_goneCounts])), (na 11, .inl (kc 0, 4, .inl na_from)), (na 12, .inl (kc 0, 4, .inl na_to))] t9.heap ∧ va_D (va_A [(na 1, .inr (4, [.ref (na 4), .ref (na 5), .ref (na 6), .ref (na 7), .ref (na 8), .ref (na 9), .ref (na 10), .ref (na 11), .ref (na 12), .ref (na 13), .ref (na 14), .ref (na 15), .int (nI na_named), .int (nI na_houses), .int (nI na_quarrels), .int (nI na_cats), .int (nI na_grocers), .int na_gone, .int na_washes, .int na_goneCounts])), (na 11, .inl (kc 0, 4, .inl na_from)), (na 12, .inl (kc 0, 4, .inl na_to))] sz) [(na 1, .inr (4, [.ref (na 4), .ref (na 5), .ref (na 6), .ref (na 7), .ref (na 8), .ref (na 9), .ref (na 10), .ref (na 11), .ref (na 12), .ref (na 13), .ref (na 14), .ref (na 15), .int (nI na_named), .int (nI na_houses), .int (nI na_quarrels), .int (nI na_cats), .int (nI na_grocers), .int na_gone, .int na_washes, .int na_goneCounts])), (na 11, .inl (kc 0, 4, .inl na_from)), (na 12, .inl (kc 0, 4, .inl na_to))]) (va_A [(na 1, .inr (4, [.ref (na 4), .ref (na 5), .ref (na 6), .ref (na 7), .ref (na 8), .ref (na 9), .ref (na 10), .ref (na 11), .ref (na 12), .ref (na 13), .ref (na 14), .ref (na 15), .int (nI na_named), .int (nI na_houses), .int (nI na_quarrels), .int (nI na_cats), .int (nI na_grocers), .int na_gone, .int na_washes, .int na_goneCounts])), (na 11, .inl (kc 0, 4, .inl na_from)), (na 12, .inl (kc 0, 4, .inl na_to))] sz)) 0 0 (va_A [(na 1, .inr (4, [.ref (na 4), .ref (na 5), .ref (na 6), .ref (na 7), .ref (na 8), .ref (na 9), .ref (na 10), .ref (na 11), .ref (na 12), .ref (na 13), .ref (na 14), .ref (na 15), .int (nI na_named), .int (nI na_houses), .int (nI na_quarrels), .int (nI na_cats), .int (nI na_grocers), .int na_gone, .int na_washes, .int na_goneCounts])), (na 11, .inl (kc 0, 4, .inl na_from)), (na 12, .inl (kc 0, 4, .inl na_to))] sz) := by
  refine Met.ofW (cc := cX4_reachedFrom) (maxL := 5) (ret := (some .int)) (by decide) rfl ?_
  intro p e s m args below meth c s₁ B hml hv
  obtain ⟨rfl, hsz, hP, hE, hD0⟩ := hv
  have hx := B.exec
  have hb := B.bytes
  have hr := B.returns
  have hts := atoms_spec (ws := vs_reachedFrom) B.pre
  have hown : s.vm.findClass RX4 = some m.cls := findClass_of_methodNamed B.named
  have hlocks := B.notSynchronized
  subst hsz
  have hD := hD0.self (sz := s.heap.size)
  generalize hAe : va_A [(na 1, .inr (4, [.ref (na 4), .ref (na 5), .ref (na 6), .ref (na 7), .ref (na 8), .ref (na 9), .ref (na 10), .ref (na 11), .ref (na 12), .ref (na 13), .ref (na 14), .ref (na 15), .int (nI na_named), .int (nI na_houses), .int (nI na_quarrels), .int (nI na_cats), .int (nI na_grocers), .int na_gone, .int na_washes, .int na_goneCounts])), (na 11, .inl (kc 0, 4, .inl na_from)), (na 12, .inl (kc 0, 4, .inl na_to))] s.heap.size = A at hD ⊢
  have hA : ∀ q : Nat, s.heap.size ≤ q → A q := fun q h => by rw [← hAe]; exact Or.inr h
  have hS : va_S A s.heap s.heap [] := va_S.rf
  have hK := hE.1
  have hP : va_P D vwCl [(na 1, .inr (4, [.ref (na 4), .ref (na 5), .ref (na 6), .ref (na 7), .ref (na 8), .ref (na 9), .ref (na 10), .ref (na 11), .ref (na 12), .ref (na 13), .ref (na 14), .ref (na 15), .int (nI na_named), .int (nI na_houses), .int (nI na_quarrels), .int (nI na_cats), .int (nI na_grocers), .int na_gone, .int na_washes, .int na_goneCounts])), (na 11, .inl (kc 0, 4, .inl na_from)), (na 12, .inl (kc 0, 4, .inl na_to))] s.heap := hP
  have hl := lv_entry ([.ref (na 1), .int a0]) (n := 5) (Nat.le_of_ble_eq_true rfl)
  rw [lg_entry_eq]
  generalize (lg_sl ([.ref (na 1), .int a0]) ++ List.replicate (5 - (lg_sl ([.ref (na 1), .int a0])).length) Slot.unset).toArray = ls at hl ⊢
  have hl : lv_has ls 5 [(0, .ref (na 1)), (1, .int a0)] := hl
  refine lv_iconst (v := 1) hx hb dX4_reachedFrom_0 (by decide) ?_
  refine lv_iload_n hx hb dX4_reachedFrom_1 rfl (lv_at hl 1 rfl) ?_
  refine lv_ishl hx hb dX4_reachedFrom_2 ?_
  refine lv_topi (fun z1 _ => ?_)
  refine lv_istore_n (lv' := [(2, .int z1), (0, .ref (na 1)), (1, .int a0)]) hx hb dX4_reachedFrom_3 rfl hl (by decide) rfl (fun ls hl => ?_)
  refine lv_iconst (v := 0) hx hb dX4_reachedFrom_4 (by decide) ?_
  refine lv_istore_n (lv' := [(3, .int 0), (2, .int z1), (0, .ref (na 1)), (1, .int a0)]) hx hb dX4_reachedFrom_5 rfl hl (by decide) rfl (fun ls hl => ?_)
  have loop_n9_6_55 : ∀ (n9_6_55 : Nat) (i53 : Nat) (z54 : Int32), i53 ≤ 8 → 8 < i53 + n9_6_55 → ∀ (H : Heap) (locs : List Loc) (ls : Array Slot), va_P D vwCl [(na 1, .inr (4, [.ref (na 4), .ref (na 5), .ref (na 6), .ref (na 7), .ref (na 8), .ref (na 9), .ref (na 10), .ref (na 11), .ref (na 12), .ref (na 13), .ref (na 14), .ref (na 15), .int (nI na_named), .int (nI na_houses), .int (nI na_quarrels), .int (nI na_cats), .int (nI na_grocers), .int na_gone, .int na_washes, .int na_goneCounts])), (na 11, .inl (kc 0, 4, .inl na_from)), (na 12, .inl (kc 0, 4, .inl na_to))] H → va_D A [(na 1, .inr (4, [.ref (na 4), .ref (na 5), .ref (na 6), .ref (na 7), .ref (na 8), .ref (na 9), .ref (na 10), .ref (na 11), .ref (na 12), .ref (na 13), .ref (na 14), .ref (na 15), .int (nI na_named), .int (nI na_houses), .int (nI na_quarrels), .int (nI na_cats), .int (nI na_grocers), .int na_gone, .int na_washes, .int na_goneCounts])), (na 11, .inl (kc 0, 4, .inl na_from)), (na 12, .inl (kc 0, 4, .inl na_to))] → va_S A s.heap H locs → lv_has ls 5 [(3, .int (nI i53)), (2, .int z54), (0, .ref (na 1)), (1, .int a0)] → W p l e (headSpec vs_reachedFrom ({ frames := 1, cells := 0, slots := 0, locals := 21 })).room s m [.ref (na 1), .int a0].toArray below meth c H locs 0 0 (MQ below (va_Qi (fun (r : Int32) (_ : Unit) => True) (fun (_ : Unit) (t9 : State) => va_P D vwCl [(na 1, .inr (4, [.ref (na 4), .ref (na 5), .ref (na 6), .ref (na 7), .ref (na 8), .ref (na 9), .ref (na 10), .ref (na 11), .ref (na 12), .ref (na 13), .ref (na 14), .ref (na 15), .int (nI na_named), .int (nI na_houses), .int (nI na_quarrels), .int (nI na_cats), .int (nI na_grocers), .int na_gone, .int na_washes, .int na_goneCounts])), (na 11, .inl (kc 0, 4, .inl na_from)), (na 12, .inl (kc 0, 4, .inl na_to))] t9.heap ∧ va_D A [(na 1, .inr (4, [.ref (na 4), .ref (na 5), .ref (na 6), .ref (na 7), .ref (na 8), .ref (na 9), .ref (na 10), .ref (na 11), .ref (na 12), .ref (na 13), .ref (na 14), .ref (na 15), .int (nI na_named), .int (nI na_houses), .int (nI na_quarrels), .int (nI na_cats), .int (nI na_grocers), .int na_gone, .int na_washes, .int na_goneCounts])), (na 11, .inl (kc 0, 4, .inl na_from)), (na 12, .inl (kc 0, 4, .inl na_to))]) A) [.ref (na 1), .int a0].toArray s 0 0 A) (F0 m 6 ls []) := by
    intro n9_6_55
    induction n9_6_55 with
    | zero => intro i53 z54  h1 h2; exact absurd h2 (by omega)
    | succ n9_6_55 ih_n9_6_55 =>
      intro i53 z54  h1_n9_6_55 h2_n9_6_55 H locs ls hP hD hS hl
      refine lv_iload_n hx hb dX4_reachedFrom_6 rfl (lv_at hl 0 rfl) ?_
      refine lv_bipush (v := 8) hx hb dX4_reachedFrom_7 (by decide) ?_
      refine lv_icmp_ge (tgt := 62) hx hb dX4_reachedFrom_9 (by decide) (fun c56 => ?_) (fun c56 => ?_)
      · have nc56 := (nI_leI (a := 8) (b := i53) (by omega) (by omega)).mp c56
        refine lv_iload_n hx hb dX4_reachedFrom_62 rfl (lv_at hl 1 rfl) ?_
        have hP9 := hP.sub (ws' := [(na 1, .inr (4, [.ref (na 4), .ref (na 5), .ref (na 6), .ref (na 7), .ref (na 8), .ref (na 9), .ref (na 10), .ref (na 11), .ref (na 12), .ref (na 13), .ref (na 14), .ref (na 15), .int (nI na_named), .int (nI na_houses), .int (nI na_quarrels), .int (nI na_cats), .int (nI na_grocers), .int na_gone, .int na_washes, .int na_goneCounts])), (na 11, .inl (kc 0, 4, .inl na_from)), (na 12, .inl (kc 0, 4, .inl na_to))]) [0, 1, 2] rfl
        have hD9 := hD.sub (ws' := [(na 1, .inr (4, [.ref (na 4), .ref (na 5), .ref (na 6), .ref (na 7), .ref (na 8), .ref (na 9), .ref (na 10), .ref (na 11), .ref (na 12), .ref (na 13), .ref (na 14), .ref (na 15), .int (nI na_named), .int (nI na_houses), .int (nI na_quarrels), .int (nI na_cats), .int (nI na_grocers), .int na_gone, .int na_washes, .int na_goneCounts])), (na 11, .inl (kc 0, 4, .inl na_from)), (na 12, .inl (kc 0, 4, .inl na_to))]) [0, 1, 2] (by decide) rfl
        exact W.iret (v := z54) hx hb hr (fun t9 ht hW => ⟨⟨z54, (), rfl, trivial, by rw [ht]; exact hP9, hD9⟩, hS.F ht⟩) hS.2.2 dX4_reachedFrom_63
      · have nc56 := Nat.not_le.mp (fun q => c56 ((nI_leI (a := 8) (b := i53) (by omega) (by omega)).mpr q))
        refine lv_iconst (v := 0) hx hb dX4_reachedFrom_12 (by decide) ?_
        refine lv_istore (lv' := [(4, .int 0), (3, .int (nI i53)), (2, .int z54), (0, .ref (na 1)), (1, .int a0)]) hx hb dX4_reachedFrom_13 hl (by decide) rfl (fun ls hl => ?_)
        have loop_n9_15_68 : ∀ (n9_15_68 : Nat) (i66 : Nat) (z67 : Int32), i66 ≤ na_cats → na_cats < i66 + n9_15_68 → ∀ (H : Heap) (locs : List Loc) (ls : Array Slot), va_P D vwCl [(na 1, .inr (4, [.ref (na 4), .ref (na 5), .ref (na 6), .ref (na 7), .ref (na 8), .ref (na 9), .ref (na 10), .ref (na 11), .ref (na 12), .ref (na 13), .ref (na 14), .ref (na 15), .int (nI na_named), .int (nI na_houses), .int (nI na_quarrels), .int (nI na_cats), .int (nI na_grocers), .int na_gone, .int na_washes, .int na_goneCounts])), (na 11, .inl (kc 0, 4, .inl na_from)), (na 12, .inl (kc 0, 4, .inl na_to))] H → va_D A [(na 1, .inr (4, [.ref (na 4), .ref (na 5), .ref (na 6), .ref (na 7), .ref (na 8), .ref (na 9), .ref (na 10), .ref (na 11), .ref (na 12), .ref (na 13), .ref (na 14), .ref (na 15), .int (nI na_named), .int (nI na_houses), .int (nI na_quarrels), .int (nI na_cats), .int (nI na_grocers), .int na_gone, .int na_washes, .int na_goneCounts])), (na 11, .inl (kc 0, 4, .inl na_from)), (na 12, .inl (kc 0, 4, .inl na_to))] → va_S A s.heap H locs → lv_has ls 5 [(4, .int (nI i66)), (3, .int (nI i53)), (2, .int z67), (0, .ref (na 1)), (1, .int a0)] → W p l e (headSpec vs_reachedFrom ({ frames := 1, cells := 0, slots := 0, locals := 21 })).room s m [.ref (na 1), .int a0].toArray below meth c H locs 0 0 (MQ below (va_Qi (fun (r : Int32) (_ : Unit) => True) (fun (_ : Unit) (t9 : State) => va_P D vwCl [(na 1, .inr (4, [.ref (na 4), .ref (na 5), .ref (na 6), .ref (na 7), .ref (na 8), .ref (na 9), .ref (na 10), .ref (na 11), .ref (na 12), .ref (na 13), .ref (na 14), .ref (na 15), .int (nI na_named), .int (nI na_houses), .int (nI na_quarrels), .int (nI na_cats), .int (nI na_grocers), .int na_gone, .int na_washes, .int na_goneCounts])), (na 11, .inl (kc 0, 4, .inl na_from)), (na 12, .inl (kc 0, 4, .inl na_to))] t9.heap ∧ va_D A [(na 1, .inr (4, [.ref (na 4), .ref (na 5), .ref (na 6), .ref (na 7), .ref (na 8), .ref (na 9), .ref (na 10), .ref (na 11), .ref (na 12), .ref (na 13), .ref (na 14), .ref (na 15), .int (nI na_named), .int (nI na_houses), .int (nI na_quarrels), .int (nI na_cats), .int (nI na_grocers), .int na_gone, .int na_washes, .int na_goneCounts])), (na 11, .inl (kc 0, 4, .inl na_from)), (na 12, .inl (kc 0, 4, .inl na_to))]) A) [.ref (na 1), .int a0].toArray s 0 0 A) (F0 m 15 ls []) := by
          intro n9_15_68
          induction n9_15_68 with
          | zero => intro i66 z67  h1 h2; exact absurd h2 (by omega)
          | succ n9_15_68 ih_n9_15_68 =>
            intro i66 z67  h1_n9_15_68 h2_n9_15_68 H locs ls hP hD hS hl
            refine lv_iload hx hb dX4_reachedFrom_15 (lv_at hl 0 rfl) ?_
            refine lv_aload_n hx hb dX4_reachedFrom_17 rfl (lv_at hl 3 rfl) ?_
            refine va_get (D := D) (ci := 4) (v := .int (nI na_cats)) (C := RX4) (T := TX4) (N := 20) hx hb hts is_reachedFrom_X4 hown hK hP 0 rfl rfl 15 (by decide) (hts (.fieldLink RX4 66 "SaltStreet$Plan" "cats" "I") (List.mem_of_getElem? (i := 1) rfl)) (fun _ h9 => h9) rfl dX4_reachedFrom_18 ?_
            refine lv_icmp_ge (tgt := 56) hx hb dX4_reachedFrom_21 (by decide) (fun c69 => ?_) (fun c69 => ?_)
            · have nc69 := (nI_leI (a := na_cats) (b := i66) (by omega) (by omega)).mp c69
              refine lv_iinc (v := (nI (i53 + 1))) (lv' := [(3, .int (nI (i53 + 1))), (4, .int (nI i66)), (2, .int z67), (0, .ref (na 1)), (1, .int a0)]) hx hb dX4_reachedFrom_56 hl (k := 1) rfl (nI_1 _) (by decide) rfl (fun ls hl => ?_)
              refine lv_goto (tgt := 6) hx hb dX4_reachedFrom_59 (by decide) ?_
              exact ih_n9_6_55 (i53 + 1) z67 (by omega) (by omega) _ _ ls hP hD hS (lv_sub hl [0, 2, 3, 4] rfl)
            · have nc69 := Nat.not_le.mp (fun q => c69 ((nI_leI (a := na_cats) (b := i66) (by omega) (by omega)).mpr q))
              refine lv_iload_n hx hb dX4_reachedFrom_24 rfl (lv_at hl 2 rfl) ?_
              refine lv_aload_n hx hb dX4_reachedFrom_25 rfl (lv_at hl 3 rfl) ?_
              refine va_get (D := D) (ci := 4) (v := .ref (na 11)) (C := RX4) (T := TX4) (N := 20) hx hb hts is_reachedFrom_X4 hown hK hP 0 rfl rfl 7 (by decide) (hts (.fieldLink RX4 34 "SaltStreet$Plan" "from" "[I") (List.mem_of_getElem? (i := 2) rfl)) (fun _ h9 => h9) rfl dX4_reachedFrom_26 ?_
              refine lv_iload hx hb dX4_reachedFrom_29 (lv_at hl 0 rfl) ?_
              refine va_iald hx hb hK hP 1 0 (f := na_from) rfl rfl (vp_in_nI (by omega) (by decide)) dX4_reachedFrom_31 ?_
              obtain ⟨k70, h_k70, e_k70⟩ := h_na_from ((nI i66) : Int32).toNatClampNeg
              refine lv_ci (y := nI k70) e_k70 ?_
              have hPc := hP.sub (ws' := []) [] rfl
              have hDc := hD.sub (ws' := []) [] (by decide) rfl
              have hFc := va_free (wc := []) hD hS hA [] rfl
              refine va_calli (va_runSN (As := [.int z67, .int (nI k70)]) (rest := []) ⟨hx, hb, hml, hown, hts⟩ (s_has l D kc H.size z67 (nI k70)) ⟨va_cnB 2 hts gs_reachedFrom_93_s_has rfl rfl rfl (hE.nn 126 rfl) (hts (.initialized RX11) (List.mem_of_getElem? (i := 4) rfl)) (by decide +kernel) ⟨Nat.le_of_ble_eq_true rfl, Nat.le_of_ble_eq_true rfl⟩, (hts (.static yX11_has) (List.mem_of_getElem? (i := 5) rfl)), trivial⟩ (preS_ok hPc hDc hE) rfl rfl hl.1 rfl (lv_room (Nat.le_of_ble_eq_true rfl)) dX4_reachedFrom_32 ⟨Nat.le_of_ble_eq_true rfl, Nat.le_of_ble_eq_true rfl⟩) hS (fun q _ h => hFc q h) hFc (fun r71 u9 t9 H locs ht hvm hw hB hz1 hk1 hS => ?_)
              obtain ⟨hP1, hD1⟩ := hB
              rw [ht] at hP1
              obtain ⟨hP, hD⟩ := va_join (wr := [(na 1, .inr (4, [.ref (na 4), .ref (na 5), .ref (na 6), .ref (na 7), .ref (na 8), .ref (na 9), .ref (na 10), .ref (na 11), .ref (na 12), .ref (na 13), .ref (na 14), .ref (na 15), .int (nI na_named), .int (nI na_houses), .int (nI na_quarrels), .int (nI na_cats), .int (nI na_grocers), .int na_gone, .int na_washes, .int na_goneCounts])), (na 11, .inl (kc 0, 4, .inl na_from)), (na 12, .inl (kc 0, 4, .inl na_to))]) (w1 := []) hP hD [] [0, 1, 2] rfl rfl (by decide) (by decide) hk1 hFc hP1 hD1
              have hP : va_P D vwCl [(na 1, .inr (4, [.ref (na 4), .ref (na 5), .ref (na 6), .ref (na 7), .ref (na 8), .ref (na 9), .ref (na 10), .ref (na 11), .ref (na 12), .ref (na 13), .ref (na 14), .ref (na 15), .int (nI na_named), .int (nI na_houses), .int (nI na_quarrels), .int (nI na_cats), .int (nI na_grocers), .int na_gone, .int na_washes, .int na_goneCounts])), (na 11, .inl (kc 0, 4, .inl na_from)), (na 12, .inl (kc 0, 4, .inl na_to))] H := hP
              have hD : va_D A [(na 1, .inr (4, [.ref (na 4), .ref (na 5), .ref (na 6), .ref (na 7), .ref (na 8), .ref (na 9), .ref (na 10), .ref (na 11), .ref (na 12), .ref (na 13), .ref (na 14), .ref (na 15), .int (nI na_named), .int (nI na_houses), .int (nI na_quarrels), .int (nI na_cats), .int (nI na_grocers), .int na_gone, .int na_washes, .int na_goneCounts])), (na 11, .inl (kc 0, 4, .inl na_from)), (na 12, .inl (kc 0, 4, .inl na_to))] := hD
              have h_r71 := hw
              refine lv_if_eq (tgt := 50) hx hb dX4_reachedFrom_35 (by decide) (fun c72 => ?_) (fun c72 => ?_)
              · refine lv_iinc (v := (nI (i66 + 1))) (lv' := [(4, .int (nI (i66 + 1))), (3, .int (nI i53)), (2, .int z67), (0, .ref (na 1)), (1, .int a0)]) hx hb dX4_reachedFrom_50 hl (k := 0) rfl (nI_1 _) (by decide) rfl (fun ls hl => ?_)
                refine lv_goto (tgt := 15) hx hb dX4_reachedFrom_53 (by decide) ?_
                exact ih_n9_15_68 (i66 + 1) z67 (by omega) (by omega) _ _ ls hP hD hS (lv_sub hl [0, 1, 2, 3, 4] rfl)
              · refine lv_iload_n hx hb dX4_reachedFrom_38 rfl (lv_at hl 2 rfl) ?_
                refine lv_iconst (v := 1) hx hb dX4_reachedFrom_39 (by decide) ?_
                refine lv_aload_n hx hb dX4_reachedFrom_40 rfl (lv_at hl 3 rfl) ?_
                refine va_get (D := D) (ci := 4) (v := .ref (na 12)) (C := RX4) (T := TX4) (N := 20) hx hb hts is_reachedFrom_X4 hown hK hP 0 rfl rfl 8 (by decide) (hts (.fieldLink RX4 37 "SaltStreet$Plan" "to" "[I") (List.mem_of_getElem? (i := 6) rfl)) (fun _ h9 => h9) rfl dX4_reachedFrom_41 ?_
                refine lv_iload hx hb dX4_reachedFrom_44 (lv_at hl 0 rfl) ?_
                refine va_iald hx hb hK hP 2 0 (f := na_to) rfl rfl (vp_in_nI (by omega) (by decide)) dX4_reachedFrom_46 ?_
                obtain ⟨k73, h_k73, e_k73⟩ := h_na_to ((nI i66) : Int32).toNatClampNeg
                refine lv_ci (y := nI k73) e_k73 ?_
                refine lv_ishl hx hb dX4_reachedFrom_47 ?_
                refine lv_topi (fun z74 _ => ?_)
                refine lv_ior hx hb dX4_reachedFrom_48 ?_
                refine lv_topi (fun z75 _ => ?_)
                refine lv_istore_n (lv' := [(2, .int z75), (4, .int (nI i66)), (3, .int (nI i53)), (0, .ref (na 1)), (1, .int a0)]) hx hb dX4_reachedFrom_49 rfl hl (by decide) rfl (fun ls hl => ?_)
                refine lv_iinc (v := (nI (i66 + 1))) (lv' := [(4, .int (nI (i66 + 1))), (2, .int z75), (3, .int (nI i53)), (0, .ref (na 1)), (1, .int a0)]) hx hb dX4_reachedFrom_50 hl (k := 1) rfl (nI_1 _) (by decide) rfl (fun ls hl => ?_)
                refine lv_goto (tgt := 15) hx hb dX4_reachedFrom_53 (by decide) ?_
                exact ih_n9_15_68 (i66 + 1) z75 (by omega) (by omega) _ _ ls hP hD hS (lv_sub hl [0, 2, 1, 3, 4] rfl)
        exact loop_n9_15_68 (na_cats + 1) 0 z54 (by omega) (by omega) _ _ ls hP hD hS (lv_sub hl [0, 1, 2, 3, 4] rfl)
  exact loop_n9_6_55 (8 + 1) 0 z1 (by omega) (by omega) _ _ ls hP hD hS (lv_sub hl [0, 1, 2, 3] rfl)
theorem dX4_joinedTo_0 : decode cX4_joinedTo 0 = .ok (.iconst 1, 1) := by decide +kernel
theorem dX4_joinedTo_1 : decode cX4_joinedTo 1 = .ok (.iload_n 1, 1) := by decide +kernel
theorem dX4_joinedTo_2 : decode cX4_joinedTo 2 = .ok (.ishl, 1) := by decide +kernel
theorem dX4_joinedTo_3 : decode cX4_joinedTo 3 = .ok (.istore_n 2, 1) := by decide +kernel
theorem dX4_joinedTo_4 : decode cX4_joinedTo 4 = .ok (.iconst 0, 1) := by decide +kernel
theorem dX4_joinedTo_5 : decode cX4_joinedTo 5 = .ok (.istore_n 3, 1) := by decide +kernel
theorem dX4_joinedTo_6 : decode cX4_joinedTo 6 = .ok (.iload_n 3, 1) := by decide +kernel
theorem dX4_joinedTo_7 : decode cX4_joinedTo 7 = .ok (.bipush 8, 2) := by decide +kernel
theorem dX4_joinedTo_9 : decode cX4_joinedTo 9 = .ok (.if_icmp .ge 48, 3) := by decide +kernel
theorem dX4_joinedTo_57 : decode cX4_joinedTo 57 = .ok (.iload_n 2, 1) := by decide +kernel
theorem dX4_joinedTo_58 : decode cX4_joinedTo 58 = .ok (.ireturn, 1) := by decide +kernel
theorem dX4_joinedTo_12 : decode cX4_joinedTo 12 = .ok (.iconst 0, 1) := by decide +kernel
theorem dX4_joinedTo_13 : decode cX4_joinedTo 13 = .ok (.istore 4, 2) := by decide +kernel
theorem dX4_joinedTo_15 : decode cX4_joinedTo 15 = .ok (.iload 4, 2) := by decide +kernel
theorem dX4_joinedTo_17 : decode cX4_joinedTo 17 = .ok (.aload_n 0, 1) := by decide +kernel
theorem dX4_joinedTo_18 : decode cX4_joinedTo 18 = .ok (.getfield 60, 3) := by decide +kernel
theorem dX4_joinedTo_21 : decode cX4_joinedTo 21 = .ok (.if_icmp .ge 30, 3) := by decide +kernel
theorem dX4_joinedTo_51 : decode cX4_joinedTo 51 = .ok (.iinc 3 1, 3) := by decide +kernel
theorem dX4_joinedTo_54 : decode cX4_joinedTo 54 = .ok (.goto (-48), 3) := by decide +kernel
theorem dX4_joinedTo_24 : decode cX4_joinedTo 24 = .ok (.aload_n 0, 1) := by decide +kernel
theorem dX4_joinedTo_25 : decode cX4_joinedTo 25 = .ok (.getfield 31, 3) := by decide +kernel
theorem dX4_joinedTo_28 : decode cX4_joinedTo 28 = .ok (.iload 4, 2) := by decide +kernel
theorem dX4_joinedTo_30 : decode cX4_joinedTo 30 = .ok (.iaload, 1) := by decide +kernel
theorem dX4_joinedTo_31 : decode cX4_joinedTo 31 = .ok (.istore 5, 2) := by decide +kernel
theorem dX4_joinedTo_33 : decode cX4_joinedTo 33 = .ok (.iload_n 2, 1) := by decide +kernel
theorem dX4_joinedTo_34 : decode cX4_joinedTo 34 = .ok (.iload 5, 2) := by decide +kernel
theorem dX4_joinedTo_36 : decode cX4_joinedTo 36 = .ok (.iand, 1) := by decide +kernel
theorem dX4_joinedTo_37 : decode cX4_joinedTo 37 = .ok (.ifCond .eq 8, 3) := by decide +kernel
theorem dX4_joinedTo_45 : decode cX4_joinedTo 45 = .ok (.iinc 4 1, 3) := by decide +kernel
theorem dX4_joinedTo_48 : decode cX4_joinedTo 48 = .ok (.goto (-33), 3) := by decide +kernel
theorem dX4_joinedTo_40 : decode cX4_joinedTo 40 = .ok (.iload_n 2, 1) := by decide +kernel
theorem dX4_joinedTo_41 : decode cX4_joinedTo 41 = .ok (.iload 5, 2) := by decide +kernel
theorem dX4_joinedTo_43 : decode cX4_joinedTo 43 = .ok (.ior, 1) := by decide +kernel
theorem dX4_joinedTo_44 : decode cX4_joinedTo 44 = .ok (.istore_n 2, 1) := by decide +kernel
def vds_joinedTo : List Cond := [.code yX4_joinedTo cX4_joinedTo 6 (some .int), .fieldLink RX4 60 "SaltStreet$Plan" "houses" "I", .fieldLink RX4 31 "SaltStreet$Plan" "quarrelsAt" "[I"]
def vs_joinedTo : List Cond := vds_joinedTo ++ (wsX40 ++ ([] : List Cond))
theorem is_joinedTo_X4 : ∀ w ∈ wsX40, w ∈ vs_joinedTo := fun _ h => List.mem_append_right _ (List.mem_append_left _ h)
set_option maxHeartbeats 4000000 in
set_option maxRecDepth 100000 in
theorem s_joinedTo (l : Launch) (D : va_G) (kc : Nat → ClassId) (sz : Nat) (na : Nat → Nat) (na_named : Nat) (na_houses : Nat) (na_quarrels : Nat) (na_cats : Nat) (na_grocers : Nat) (na_gone : Int32) (na_washes : Int32) (na_goneCounts : Int32) (na_quarrelsAt : Nat → Int32) (a0 : Int32) (h_na_named : na_named ≤ 24) (h_na_houses : na_houses ≤ 8) (h_na_quarrels : na_quarrels ≤ 8) (h_na_cats : na_cats ≤ 4) (h_na_grocers : na_grocers ≤ 4) (h_na_goneCounts : na_goneCounts = 0 ∨ na_goneCounts = 1) : Met l yX4_joinedTo vs_joinedTo ({ frames := 0, cells := 0, slots := 0, locals := 0 }) (va_Pc [.ref (na 1), .int a0] (wPre D kc [(na 1, .inr (4, [.ref (na 4), .ref (na 5), .ref (na 6), .ref (na 7), .ref (na 8), .ref (na 9), .ref (na 10), .ref (na 11), .ref (na 12), .ref (na 13), .ref (na 14), .ref (na 15), .int (nI na_named), .int (nI na_houses), .int (nI na_quarrels), .int (nI na_cats), .int (nI na_grocers), .int na_gone, .int na_washes, .int na_goneCounts])), (na 10, .inl (kc 0, 8, .inl na_quarrelsAt))] sz)) (va_Qi (fun (r : Int32) (_ : Unit) => True) (fun (_ : Unit) (t9 : State) => va_P D vwCl [(na 1, .inr (4, [.ref (na 4), .ref (na 5), .ref (na 6), .ref (na 7), .ref (na 8), .ref (na 9), .ref (na 10), .ref (na 11), .ref (na 12), .ref (na 13), .ref (na 14), .ref (na 15), .int (nI na_named), .int (nI na_houses), .int (nI na_quarrels), .int (nI na_cats), .int (nI na_grocers), .int na_gone, .int na_washes, .int na_goneCounts])), (na 10, .inl (kc 0, 8, .inl na_quarrelsAt))] t9.heap ∧ va_D (va_A [(na 1, .inr (4, [.ref (na 4), .ref (na 5), .ref (na 6), .ref (na 7), .ref (na 8), .ref (na 9), .ref (na 10), .ref (na 11), .ref (na 12), .ref (na 13), .ref (na 14), .ref (na 15), .int (nI na_named), .int (nI na_houses), .int (nI na_quarrels), .int (nI na_cats), .int (nI na_grocers), .int na_gone, .int na_washes, .int na_goneCounts])), (na 10, .inl (kc 0, 8, .inl na_quarrelsAt))] sz) [(na 1, .inr (4, [.ref (na 4), .ref (na 5), .ref (na 6), .ref (na 7), .ref (na 8), .ref (na 9), .ref (na 10), .ref (na 11), .ref (na 12), .ref (na 13), .ref (na 14), .ref (na 15), .int (nI na_named), .int (nI na_houses), .int (nI na_quarrels), .int (nI na_cats), .int (nI na_grocers), .int na_gone, .int na_washes, .int na_goneCounts])), (na 10, .inl (kc 0, 8, .inl na_quarrelsAt))]) (va_A [(na 1, .inr (4, [.ref (na 4), .ref (na 5), .ref (na 6), .ref (na 7), .ref (na 8), .ref (na 9), .ref (na 10), .ref (na 11), .ref (na 12), .ref (na 13), .ref (na 14), .ref (na 15), .int (nI na_named), .int (nI na_houses), .int (nI na_quarrels), .int (nI na_cats), .int (nI na_grocers), .int na_gone, .int na_washes, .int na_goneCounts])), (na 10, .inl (kc 0, 8, .inl na_quarrelsAt))] sz)) 0 0 (va_A [(na 1, .inr (4, [.ref (na 4), .ref (na 5), .ref (na 6), .ref (na 7), .ref (na 8), .ref (na 9), .ref (na 10), .ref (na 11), .ref (na 12), .ref (na 13), .ref (na 14), .ref (na 15), .int (nI na_named), .int (nI na_houses), .int (nI na_quarrels), .int (nI na_cats), .int (nI na_grocers), .int na_gone, .int na_washes, .int na_goneCounts])), (na 10, .inl (kc 0, 8, .inl na_quarrelsAt))] sz) := by
  refine Met.ofW (cc := cX4_joinedTo) (maxL := 6) (ret := (some .int)) (by decide) rfl ?_
  intro p e s m args below meth c s₁ B hml hv
  obtain ⟨rfl, hsz, hP, hE, hD0⟩ := hv
  have hx := B.exec
  have hb := B.bytes
  have hr := B.returns
  have hts := atoms_spec (ws := vs_joinedTo) B.pre
  have hown : s.vm.findClass RX4 = some m.cls := findClass_of_methodNamed B.named
  have hlocks := B.notSynchronized
  subst hsz
  have hD := hD0.self (sz := s.heap.size)
  generalize hAe : va_A [(na 1, .inr (4, [.ref (na 4), .ref (na 5), .ref (na 6), .ref (na 7), .ref (na 8), .ref (na 9), .ref (na 10), .ref (na 11), .ref (na 12), .ref (na 13), .ref (na 14), .ref (na 15), .int (nI na_named), .int (nI na_houses), .int (nI na_quarrels), .int (nI na_cats), .int (nI na_grocers), .int na_gone, .int na_washes, .int na_goneCounts])), (na 10, .inl (kc 0, 8, .inl na_quarrelsAt))] s.heap.size = A at hD ⊢
  have hA : ∀ q : Nat, s.heap.size ≤ q → A q := fun q h => by rw [← hAe]; exact Or.inr h
  have hS : va_S A s.heap s.heap [] := va_S.rf
  have hK := hE.1
  have hP : va_P D vwCl [(na 1, .inr (4, [.ref (na 4), .ref (na 5), .ref (na 6), .ref (na 7), .ref (na 8), .ref (na 9), .ref (na 10), .ref (na 11), .ref (na 12), .ref (na 13), .ref (na 14), .ref (na 15), .int (nI na_named), .int (nI na_houses), .int (nI na_quarrels), .int (nI na_cats), .int (nI na_grocers), .int na_gone, .int na_washes, .int na_goneCounts])), (na 10, .inl (kc 0, 8, .inl na_quarrelsAt))] s.heap := hP
  have hl := lv_entry ([.ref (na 1), .int a0]) (n := 6) (Nat.le_of_ble_eq_true rfl)
  rw [lg_entry_eq]
  generalize (lg_sl ([.ref (na 1), .int a0]) ++ List.replicate (6 - (lg_sl ([.ref (na 1), .int a0])).length) Slot.unset).toArray = ls at hl ⊢
  have hl : lv_has ls 6 [(0, .ref (na 1)), (1, .int a0)] := hl
  refine lv_iconst (v := 1) hx hb dX4_joinedTo_0 (by decide) ?_
  refine lv_iload_n hx hb dX4_joinedTo_1 rfl (lv_at hl 1 rfl) ?_
  refine lv_ishl hx hb dX4_joinedTo_2 ?_
  refine lv_topi (fun z1 _ => ?_)
  refine lv_istore_n (lv' := [(2, .int z1), (0, .ref (na 1)), (1, .int a0)]) hx hb dX4_joinedTo_3 rfl hl (by decide) rfl (fun ls hl => ?_)
  refine lv_iconst (v := 0) hx hb dX4_joinedTo_4 (by decide) ?_
  refine lv_istore_n (lv' := [(3, .int 0), (2, .int z1), (0, .ref (na 1)), (1, .int a0)]) hx hb dX4_joinedTo_5 rfl hl (by decide) rfl (fun ls hl => ?_)
  have loop_n9_6_45 : ∀ (n9_6_45 : Nat) (i43 : Nat) (z44 : Int32), i43 ≤ 8 → 8 < i43 + n9_6_45 → ∀ (H : Heap) (locs : List Loc) (ls : Array Slot), va_P D vwCl [(na 1, .inr (4, [.ref (na 4), .ref (na 5), .ref (na 6), .ref (na 7), .ref (na 8), .ref (na 9), .ref (na 10), .ref (na 11), .ref (na 12), .ref (na 13), .ref (na 14), .ref (na 15), .int (nI na_named), .int (nI na_houses), .int (nI na_quarrels), .int (nI na_cats), .int (nI na_grocers), .int na_gone, .int na_washes, .int na_goneCounts])), (na 10, .inl (kc 0, 8, .inl na_quarrelsAt))] H → va_D A [(na 1, .inr (4, [.ref (na 4), .ref (na 5), .ref (na 6), .ref (na 7), .ref (na 8), .ref (na 9), .ref (na 10), .ref (na 11), .ref (na 12), .ref (na 13), .ref (na 14), .ref (na 15), .int (nI na_named), .int (nI na_houses), .int (nI na_quarrels), .int (nI na_cats), .int (nI na_grocers), .int na_gone, .int na_washes, .int na_goneCounts])), (na 10, .inl (kc 0, 8, .inl na_quarrelsAt))] → va_S A s.heap H locs → lv_has ls 6 [(3, .int (nI i43)), (2, .int z44), (0, .ref (na 1)), (1, .int a0)] → W p l e (headSpec vs_joinedTo ({ frames := 0, cells := 0, slots := 0, locals := 0 })).room s m [.ref (na 1), .int a0].toArray below meth c H locs 0 0 (MQ below (va_Qi (fun (r : Int32) (_ : Unit) => True) (fun (_ : Unit) (t9 : State) => va_P D vwCl [(na 1, .inr (4, [.ref (na 4), .ref (na 5), .ref (na 6), .ref (na 7), .ref (na 8), .ref (na 9), .ref (na 10), .ref (na 11), .ref (na 12), .ref (na 13), .ref (na 14), .ref (na 15), .int (nI na_named), .int (nI na_houses), .int (nI na_quarrels), .int (nI na_cats), .int (nI na_grocers), .int na_gone, .int na_washes, .int na_goneCounts])), (na 10, .inl (kc 0, 8, .inl na_quarrelsAt))] t9.heap ∧ va_D A [(na 1, .inr (4, [.ref (na 4), .ref (na 5), .ref (na 6), .ref (na 7), .ref (na 8), .ref (na 9), .ref (na 10), .ref (na 11), .ref (na 12), .ref (na 13), .ref (na 14), .ref (na 15), .int (nI na_named), .int (nI na_houses), .int (nI na_quarrels), .int (nI na_cats), .int (nI na_grocers), .int na_gone, .int na_washes, .int na_goneCounts])), (na 10, .inl (kc 0, 8, .inl na_quarrelsAt))]) A) [.ref (na 1), .int a0].toArray s 0 0 A) (F0 m 6 ls []) := by
    intro n9_6_45
    induction n9_6_45 with
    | zero => intro i43 z44  h1 h2; exact absurd h2 (by omega)
    | succ n9_6_45 ih_n9_6_45 =>
      intro i43 z44  h1_n9_6_45 h2_n9_6_45 H locs ls hP hD hS hl
      refine lv_iload_n hx hb dX4_joinedTo_6 rfl (lv_at hl 0 rfl) ?_
      refine lv_bipush (v := 8) hx hb dX4_joinedTo_7 (by decide) ?_
      refine lv_icmp_ge (tgt := 57) hx hb dX4_joinedTo_9 (by decide) (fun c46 => ?_) (fun c46 => ?_)
      · have nc46 := (nI_leI (a := 8) (b := i43) (by omega) (by omega)).mp c46
        refine lv_iload_n hx hb dX4_joinedTo_57 rfl (lv_at hl 1 rfl) ?_
        have hP9 := hP.sub (ws' := [(na 1, .inr (4, [.ref (na 4), .ref (na 5), .ref (na 6), .ref (na 7), .ref (na 8), .ref (na 9), .ref (na 10), .ref (na 11), .ref (na 12), .ref (na 13), .ref (na 14), .ref (na 15), .int (nI na_named), .int (nI na_houses), .int (nI na_quarrels), .int (nI na_cats), .int (nI na_grocers), .int na_gone, .int na_washes, .int na_goneCounts])), (na 10, .inl (kc 0, 8, .inl na_quarrelsAt))]) [0, 1] rfl
        have hD9 := hD.sub (ws' := [(na 1, .inr (4, [.ref (na 4), .ref (na 5), .ref (na 6), .ref (na 7), .ref (na 8), .ref (na 9), .ref (na 10), .ref (na 11), .ref (na 12), .ref (na 13), .ref (na 14), .ref (na 15), .int (nI na_named), .int (nI na_houses), .int (nI na_quarrels), .int (nI na_cats), .int (nI na_grocers), .int na_gone, .int na_washes, .int na_goneCounts])), (na 10, .inl (kc 0, 8, .inl na_quarrelsAt))]) [0, 1] (by decide) rfl
        exact W.iret (v := z44) hx hb hr (fun t9 ht hW => ⟨⟨z44, (), rfl, trivial, by rw [ht]; exact hP9, hD9⟩, hS.F ht⟩) hS.2.2 dX4_joinedTo_58
      · have nc46 := Nat.not_le.mp (fun q => c46 ((nI_leI (a := 8) (b := i43) (by omega) (by omega)).mpr q))
        refine lv_iconst (v := 0) hx hb dX4_joinedTo_12 (by decide) ?_
        refine lv_istore (lv' := [(4, .int 0), (3, .int (nI i43)), (2, .int z44), (0, .ref (na 1)), (1, .int a0)]) hx hb dX4_joinedTo_13 hl (by decide) rfl (fun ls hl => ?_)
        have loop_n9_15_56 : ∀ (n9_15_56 : Nat) (i54 : Nat) (z55 : Int32), i54 ≤ na_houses → na_houses < i54 + n9_15_56 → ∀ (H : Heap) (locs : List Loc) (ls : Array Slot), va_P D vwCl [(na 1, .inr (4, [.ref (na 4), .ref (na 5), .ref (na 6), .ref (na 7), .ref (na 8), .ref (na 9), .ref (na 10), .ref (na 11), .ref (na 12), .ref (na 13), .ref (na 14), .ref (na 15), .int (nI na_named), .int (nI na_houses), .int (nI na_quarrels), .int (nI na_cats), .int (nI na_grocers), .int na_gone, .int na_washes, .int na_goneCounts])), (na 10, .inl (kc 0, 8, .inl na_quarrelsAt))] H → va_D A [(na 1, .inr (4, [.ref (na 4), .ref (na 5), .ref (na 6), .ref (na 7), .ref (na 8), .ref (na 9), .ref (na 10), .ref (na 11), .ref (na 12), .ref (na 13), .ref (na 14), .ref (na 15), .int (nI na_named), .int (nI na_houses), .int (nI na_quarrels), .int (nI na_cats), .int (nI na_grocers), .int na_gone, .int na_washes, .int na_goneCounts])), (na 10, .inl (kc 0, 8, .inl na_quarrelsAt))] → va_S A s.heap H locs → lv_has ls 6 [(4, .int (nI i54)), (3, .int (nI i43)), (2, .int z55), (0, .ref (na 1)), (1, .int a0)] → W p l e (headSpec vs_joinedTo ({ frames := 0, cells := 0, slots := 0, locals := 0 })).room s m [.ref (na 1), .int a0].toArray below meth c H locs 0 0 (MQ below (va_Qi (fun (r : Int32) (_ : Unit) => True) (fun (_ : Unit) (t9 : State) => va_P D vwCl [(na 1, .inr (4, [.ref (na 4), .ref (na 5), .ref (na 6), .ref (na 7), .ref (na 8), .ref (na 9), .ref (na 10), .ref (na 11), .ref (na 12), .ref (na 13), .ref (na 14), .ref (na 15), .int (nI na_named), .int (nI na_houses), .int (nI na_quarrels), .int (nI na_cats), .int (nI na_grocers), .int na_gone, .int na_washes, .int na_goneCounts])), (na 10, .inl (kc 0, 8, .inl na_quarrelsAt))] t9.heap ∧ va_D A [(na 1, .inr (4, [.ref (na 4), .ref (na 5), .ref (na 6), .ref (na 7), .ref (na 8), .ref (na 9), .ref (na 10), .ref (na 11), .ref (na 12), .ref (na 13), .ref (na 14), .ref (na 15), .int (nI na_named), .int (nI na_houses), .int (nI na_quarrels), .int (nI na_cats), .int (nI na_grocers), .int na_gone, .int na_washes, .int na_goneCounts])), (na 10, .inl (kc 0, 8, .inl na_quarrelsAt))]) A) [.ref (na 1), .int a0].toArray s 0 0 A) (F0 m 15 ls []) := by
          intro n9_15_56
          induction n9_15_56 with
          | zero => intro i54 z55  h1 h2; exact absurd h2 (by omega)
          | succ n9_15_56 ih_n9_15_56 =>
            intro i54 z55  h1_n9_15_56 h2_n9_15_56 H locs ls hP hD hS hl
            refine lv_iload hx hb dX4_joinedTo_15 (lv_at hl 0 rfl) ?_
            refine lv_aload_n hx hb dX4_joinedTo_17 rfl (lv_at hl 3 rfl) ?_
            refine va_get (D := D) (ci := 4) (v := .int (nI na_houses)) (C := RX4) (T := TX4) (N := 20) hx hb hts is_joinedTo_X4 hown hK hP 0 rfl rfl 13 (by decide) (hts (.fieldLink RX4 60 "SaltStreet$Plan" "houses" "I") (List.mem_of_getElem? (i := 1) rfl)) (fun _ h9 => h9) rfl dX4_joinedTo_18 ?_
            refine lv_icmp_ge (tgt := 51) hx hb dX4_joinedTo_21 (by decide) (fun c57 => ?_) (fun c57 => ?_)
            · have nc57 := (nI_leI (a := na_houses) (b := i54) (by omega) (by omega)).mp c57
              refine lv_iinc (v := (nI (i43 + 1))) (lv' := [(3, .int (nI (i43 + 1))), (4, .int (nI i54)), (2, .int z55), (0, .ref (na 1)), (1, .int a0)]) hx hb dX4_joinedTo_51 hl (k := 1) rfl (nI_1 _) (by decide) rfl (fun ls hl => ?_)
              refine lv_goto (tgt := 6) hx hb dX4_joinedTo_54 (by decide) ?_
              exact ih_n9_6_45 (i43 + 1) z55 (by omega) (by omega) _ _ ls hP hD hS (lv_sub hl [0, 2, 3, 4] rfl)
            · have nc57 := Nat.not_le.mp (fun q => c57 ((nI_leI (a := na_houses) (b := i54) (by omega) (by omega)).mpr q))
              refine lv_aload_n hx hb dX4_joinedTo_24 rfl (lv_at hl 3 rfl) ?_
              refine va_get (D := D) (ci := 4) (v := .ref (na 10)) (C := RX4) (T := TX4) (N := 20) hx hb hts is_joinedTo_X4 hown hK hP 0 rfl rfl 6 (by decide) (hts (.fieldLink RX4 31 "SaltStreet$Plan" "quarrelsAt" "[I") (List.mem_of_getElem? (i := 2) rfl)) (fun _ h9 => h9) rfl dX4_joinedTo_25 ?_
              refine lv_iload hx hb dX4_joinedTo_28 (lv_at hl 0 rfl) ?_
              refine va_iald hx hb hK hP 1 0 (f := na_quarrelsAt) rfl rfl (vp_in_nI (by omega) (by decide)) dX4_joinedTo_30 ?_
              refine lv_topi (fun z58 _ => ?_)
              refine lv_istore (lv' := [(5, .int z58), (4, .int (nI i54)), (3, .int (nI i43)), (2, .int z55), (0, .ref (na 1)), (1, .int a0)]) hx hb dX4_joinedTo_31 hl (by decide) rfl (fun ls hl => ?_)
              refine lv_iload_n hx hb dX4_joinedTo_33 rfl (lv_at hl 3 rfl) ?_
              refine lv_iload hx hb dX4_joinedTo_34 (lv_at hl 0 rfl) ?_
              refine lv_iand hx hb dX4_joinedTo_36 ?_
              refine lv_topi (fun z59 _ => ?_)
              refine lv_if_eq (tgt := 45) hx hb dX4_joinedTo_37 (by decide) (fun c60 => ?_) (fun c60 => ?_)
              · refine lv_iinc (v := (nI (i54 + 1))) (lv' := [(4, .int (nI (i54 + 1))), (5, .int z58), (3, .int (nI i43)), (2, .int z55), (0, .ref (na 1)), (1, .int a0)]) hx hb dX4_joinedTo_45 hl (k := 1) rfl (nI_1 _) (by decide) rfl (fun ls hl => ?_)
                refine lv_goto (tgt := 15) hx hb dX4_joinedTo_48 (by decide) ?_
                exact ih_n9_15_56 (i54 + 1) z55 (by omega) (by omega) _ _ ls hP hD hS (lv_sub hl [0, 2, 3, 4, 5] rfl)
              · refine lv_iload_n hx hb dX4_joinedTo_40 rfl (lv_at hl 3 rfl) ?_
                refine lv_iload hx hb dX4_joinedTo_41 (lv_at hl 0 rfl) ?_
                refine lv_ior hx hb dX4_joinedTo_43 ?_
                refine lv_topi (fun z61 _ => ?_)
                refine lv_istore_n (lv' := [(2, .int z61), (5, .int z58), (4, .int (nI i54)), (3, .int (nI i43)), (0, .ref (na 1)), (1, .int a0)]) hx hb dX4_joinedTo_44 rfl hl (by decide) rfl (fun ls hl => ?_)
                refine lv_iinc (v := (nI (i54 + 1))) (lv' := [(4, .int (nI (i54 + 1))), (2, .int z61), (5, .int z58), (3, .int (nI i43)), (0, .ref (na 1)), (1, .int a0)]) hx hb dX4_joinedTo_45 hl (k := 2) rfl (nI_1 _) (by decide) rfl (fun ls hl => ?_)
                refine lv_goto (tgt := 15) hx hb dX4_joinedTo_48 (by decide) ?_
                exact ih_n9_15_56 (i54 + 1) z61 (by omega) (by omega) _ _ ls hP hD hS (lv_sub hl [0, 3, 1, 4, 5] rfl)
        exact loop_n9_15_56 (na_houses + 1) 0 z44 (by omega) (by omega) _ _ ls hP hD hS (lv_sub hl [0, 1, 2, 3, 4] rfl)
  exact loop_n9_6_45 (8 + 1) 0 z1 (by omega) (by omega) _ _ ls hP hD hS (lv_sub hl [0, 1, 2, 3] rfl)
