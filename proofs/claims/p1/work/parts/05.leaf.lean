theorem dX11_within_0 : decode cX11_within 0 = .ok (.iload_n 0, 1) := by decide +kernel
theorem dX11_within_1 : decode cX11_within 1 = .ok (.iload_n 1, 1) := by decide +kernel
theorem dX11_within_2 : decode cX11_within 2 = .ok (.if_icmp .lt 12, 3) := by decide +kernel
theorem dX11_within_14 : decode cX11_within 14 = .ok (.iconst 0, 1) := by decide +kernel
theorem dX11_within_15 : decode cX11_within 15 = .ok (.ireturn, 1) := by decide +kernel
theorem dX11_within_5 : decode cX11_within 5 = .ok (.iload_n 0, 1) := by decide +kernel
theorem dX11_within_6 : decode cX11_within 6 = .ok (.iload_n 2, 1) := by decide +kernel
theorem dX11_within_7 : decode cX11_within 7 = .ok (.if_icmp .gt 7, 3) := by decide +kernel
theorem dX11_within_10 : decode cX11_within 10 = .ok (.iconst 1, 1) := by decide +kernel
theorem dX11_within_11 : decode cX11_within 11 = .ok (.goto 4, 3) := by decide +kernel
def vdc_within : List Cond := [.code yX11_within cX11_within 3 (some .boolean)]
def vc_within : List Cond := vdc_within ++ ([] : List Cond)
set_option maxHeartbeats 4000000 in
set_option maxRecDepth 100000 in
theorem c_within (l : Launch) (D : va_G) (kc : Nat → ClassId) (sz : Nat) (v : Int32) (lo : Int32) (hi : Int32) : Met l yX11_within vc_within ({ frames := 0, cells := 0, slots := 0, locals := 0 }) (va_Pc [.int v, .int lo, .int hi] (wPre D kc [] sz)) (va_Qi (fun (r : Int32) (_ : Unit) => r = (bW v lo hi)) (wPost D [] (va_A [] sz)) (va_A [] sz)) 0 0 (va_A [] sz) := by
  refine Met.ofW (cc := cX11_within) (maxL := 3) (ret := (some .boolean)) (by decide) rfl ?_
  intro p e s m args below meth c s₁ B hml hv
  obtain ⟨rfl, hsz, hP, hE, hD0⟩ := hv
  have hx := B.exec
  have hb := B.bytes
  have hr := B.returns
  have hts := atoms_spec (ws := vc_within) B.pre
  have hown : s.vm.findClass RX11 = some m.cls := findClass_of_methodNamed B.named
  have hlocks := B.notSynchronized
  subst hsz
  have hD := hD0.self (sz := s.heap.size)
  generalize hAe : va_A [] s.heap.size = A at hD ⊢
  have hA : ∀ q : Nat, s.heap.size ≤ q → A q := fun q h => by rw [← hAe]; exact Or.inr h
  have hS : va_S A s.heap s.heap [] := va_S.rf
  have hK := hE.1
  have hP : va_P D vwCl [] s.heap := hP
  have hl := lv_entry ([.int v, .int lo, .int hi]) (n := 3) (Nat.le_of_ble_eq_true rfl)
  rw [lg_entry_eq]
  generalize (lg_sl ([.int v, .int lo, .int hi]) ++ List.replicate (3 - (lg_sl ([.int v, .int lo, .int hi])).length) Slot.unset).toArray = ls at hl ⊢
  have hl : lv_has ls 3 [(0, .int v), (1, .int lo), (2, .int hi)] := hl
  refine lv_iload_n hx hb dX11_within_0 rfl (lv_at hl 0 rfl) ?_
  refine lv_iload_n hx hb dX11_within_1 rfl (lv_at hl 1 rfl) ?_
  refine lv_icmp_lt (tgt := 14) hx hb dX11_within_2 (by decide) (fun c_2 => ?_) (fun c_2 => ?_)
  · refine lv_iconst (v := 0) hx hb dX11_within_14 (by decide) ?_
    have hP9 := hP.sub (ws' := []) [] rfl
    have hD9 := hD.sub (ws' := []) [] (by decide) rfl
    exact W.zret (v := 0) hx hb hr rfl (fun t9 ht hW => ⟨⟨0, (), rfl, by first | exact (bW_0a (lt_nle c_2)).symm | exact (bW_0b (lt_nle c_7)).symm | exact (bW_1 (nlt_le c_2) (nlt_le c_7)).symm, ⟨by rw [ht]; exact hP9, hD9⟩⟩, hS.F ht⟩) hS.2.2 dX11_within_15
  · refine lv_iload_n hx hb dX11_within_5 rfl (lv_at hl 0 rfl) ?_
    refine lv_iload_n hx hb dX11_within_6 rfl (lv_at hl 2 rfl) ?_
    refine lv_icmp_gt (tgt := 14) hx hb dX11_within_7 (by decide) (fun c_7 => ?_) (fun c_7 => ?_)
    · refine lv_iconst (v := 0) hx hb dX11_within_14 (by decide) ?_
      have hP9 := hP.sub (ws' := []) [] rfl
      have hD9 := hD.sub (ws' := []) [] (by decide) rfl
      exact W.zret (v := 0) hx hb hr rfl (fun t9 ht hW => ⟨⟨0, (), rfl, by first | exact (bW_0a (lt_nle c_2)).symm | exact (bW_0b (lt_nle c_7)).symm | exact (bW_1 (nlt_le c_2) (nlt_le c_7)).symm, ⟨by rw [ht]; exact hP9, hD9⟩⟩, hS.F ht⟩) hS.2.2 dX11_within_15
    · refine lv_iconst (v := 1) hx hb dX11_within_10 (by decide) ?_
      refine lv_goto (tgt := 15) hx hb dX11_within_11 (by decide) ?_
      have hP9 := hP.sub (ws' := []) [] rfl
      have hD9 := hD.sub (ws' := []) [] (by decide) rfl
      exact W.zret (v := 1) hx hb hr rfl (fun t9 ht hW => ⟨⟨1, (), rfl, by first | exact (bW_0a (lt_nle c_2)).symm | exact (bW_0b (lt_nle c_7)).symm | exact (bW_1 (nlt_le c_2) (nlt_le c_7)).symm, ⟨by rw [ht]; exact hP9, hD9⟩⟩, hS.F ht⟩) hS.2.2 dX11_within_15
theorem dX11_isTray_0 : decode cX11_isTray 0 = .ok (.iload_n 0, 1) := by decide +kernel
theorem dX11_isTray_1 : decode cX11_isTray 1 = .ok (.iconst 0, 1) := by decide +kernel
theorem dX11_isTray_2 : decode cX11_isTray 2 = .ok (.iconst 3, 1) := by decide +kernel
theorem dX11_isTray_3 : decode cX11_isTray 3 = .ok (.invokestatic 113, 3) := by decide +kernel
theorem dX11_isTray_6 : decode cX11_isTray 6 = .ok (.ireturn, 1) := by decide +kernel
def vdc_isTray : List Cond := [.code yX11_isTray cX11_isTray 1 (some .boolean), .methodLink RX11 113 yX11_within, .code yX11_within cX11_within 3 (some .boolean), .static yX11_within, .initialized RX11]
def vc_isTray : List Cond := vdc_isTray ++ ([] : List Cond)
set_option maxRecDepth 20000 in
theorem gc_isTray_113_c_within : GoodIn vc_isTray (va_wsS RX11 113 yX11_within vc_within) := (goodIn_app (goodIn_r _ [1, 3, 4] rfl (by decide +kernel)) (goodIn_app (goodIn_r vdc_within [2] rfl (by decide +kernel)) goodIn_nil))
set_option maxHeartbeats 4000000 in
set_option maxRecDepth 100000 in
theorem c_isTray (l : Launch) (D : va_G) (kc : Nat → ClassId) (sz : Nat) (t : Int32) : Met l yX11_isTray vc_isTray ({ frames := 1, cells := 0, slots := 0, locals := 22 }) (va_Pc [.int t] (wPre D kc [] sz)) (va_Qi (fun (r : Int32) (_ : Unit) => r = (bW t 0 3)) (wPost D [] (va_A [] sz)) (va_A [] sz)) 0 0 (va_A [] sz) := by
  refine Met.ofW (cc := cX11_isTray) (maxL := 1) (ret := (some .boolean)) (by decide) rfl ?_
  intro p e s m args below meth c s₁ B hml hv
  obtain ⟨rfl, hsz, hP, hE, hD0⟩ := hv
  have hx := B.exec
  have hb := B.bytes
  have hr := B.returns
  have hts := atoms_spec (ws := vc_isTray) B.pre
  have hown : s.vm.findClass RX11 = some m.cls := findClass_of_methodNamed B.named
  have hlocks := B.notSynchronized
  subst hsz
  have hD := hD0.self (sz := s.heap.size)
  generalize hAe : va_A [] s.heap.size = A at hD ⊢
  have hA : ∀ q : Nat, s.heap.size ≤ q → A q := fun q h => by rw [← hAe]; exact Or.inr h
  have hS : va_S A s.heap s.heap [] := va_S.rf
  have hK := hE.1
  have hP : va_P D vwCl [] s.heap := hP
  have hl := lv_entry ([.int t]) (n := 1) (Nat.le_of_ble_eq_true rfl)
  rw [lg_entry_eq]
  generalize (lg_sl ([.int t]) ++ List.replicate (1 - (lg_sl ([.int t])).length) Slot.unset).toArray = ls at hl ⊢
  have hl : lv_has ls 1 [(0, .int t)] := hl
  refine lv_iload_n hx hb dX11_isTray_0 rfl (lv_at hl 0 rfl) ?_
  refine lv_iconst (v := 0) hx hb dX11_isTray_1 (by decide) ?_
  refine lv_iconst (v := 3) hx hb dX11_isTray_2 (by decide) ?_
  have hPc := hP.sub (ws' := []) [] rfl
  have hDc := hD.sub (ws' := []) [] (by decide) rfl
  have hFc := va_free (wc := []) hD hS hA [] rfl
  refine va_calli (va_runS (As := [.int t, .int 0, .int 3]) (rest := []) ⟨hx, hb, hml, hown, hts⟩ (c_within l D kc s.heap.size t 0 3) (va_cwS 3 hts gc_isTray_113_c_within rfl rfl rfl (by decide +kernel) ⟨Nat.le_of_ble_eq_true rfl, Nat.le_of_ble_eq_true rfl⟩) (preS_ok hPc hDc hE) rfl rfl hl.1 rfl (lv_room (Nat.le_of_ble_eq_true rfl)) dX11_isTray_3 ⟨Nat.le_of_ble_eq_true rfl, Nat.le_of_ble_eq_true rfl⟩) hS (fun q _ h => hFc q h) hFc (fun r_3 u9 t9 H locs ht hvm hw hB hz1 hk1 hS => ?_)
  obtain ⟨hP1, hD1⟩ := hB
  rw [ht] at hP1
  obtain ⟨hP, hD⟩ := va_join (wr := []) (w1 := []) hP hD [] [] rfl rfl (by decide) (by decide) hk1 hFc hP1 hD1
  have hP : va_P D vwCl [] H := hP
  have hD : va_D A [] := hD
  subst hw
  have hP9 := hP.sub (ws' := []) [] rfl
  have hD9 := hD.sub (ws' := []) [] (by decide) rfl
  exact W.zret (v := (bW t 0 3)) hx hb hr (bW_nar _ _ _) (fun t9 ht hW => ⟨⟨(bW t 0 3), (), rfl, rfl, ⟨by rw [ht]; exact hP9, hD9⟩⟩, hS.F ht⟩) hS.2.2 dX11_isTray_6
theorem dX11_refuse_0 : decode cX11_refuse 0 = .ok (.aload_n 0, 1) := by decide +kernel
theorem dX11_refuse_1 : decode cX11_refuse 1 = .ok (.iload_n 1, 1) := by decide +kernel
theorem dX11_refuse_2 : decode cX11_refuse 2 = .ok (.putfield 103, 3) := by decide +kernel
theorem dX11_refuse_5 : decode cX11_refuse 5 = .ok (.iconst (-1), 1) := by decide +kernel
theorem dX11_refuse_6 : decode cX11_refuse 6 = .ok (.ireturn, 1) := by decide +kernel
def vdc_refuse : List Cond := [.code yX11_refuse cX11_refuse 2 (some .int), .fieldLink RX11 103 "SaltStreet" "status" "I"]
def vc_refuse : List Cond := vdc_refuse ++ (wsX110 ++ ([] : List Cond))
theorem ic_refuse_X11 : ∀ w ∈ wsX110, w ∈ vc_refuse := fun _ h => List.mem_append_right _ (List.mem_append_left _ h)
set_option maxHeartbeats 4000000 in
set_option maxRecDepth 100000 in
theorem c_refuse (l : Launch) (D : va_G) (kc : Nat → ClassId) (sz : Nat) (xa : Nat → Nat) (na : Nat → Nat) (pa : Nat → Nat) (ot : Int32) (mk : Int32) (st : Int32) (tp : Int64) (bt : Int64) (fa : Int32) (fp : Int32) (why : Int32) : Met l yX11_refuse vc_refuse ({ frames := 0, cells := 0, slots := 0, locals := 0 }) (va_Pc [.ref (xa 0), .int why] (wPre D kc [(xa 0, .inr (10, [.ref (xa 1), .ref (xa 2), .ref (na 0), .ref (pa 0), .ref (xa 3), .ref (na 1), .ref (na 2), .ref (xa 4), .ref (xa 5), .ref (xa 6), .ref (xa 7), .ref (xa 8), .ref (xa 9), .int ot, .int mk, .int st, .long tp, .long bt, .int fa, .int fp]))] sz)) (va_Qi (fun (r : Int32) (_ : Unit) => r = (-1)) (wPost D [(xa 0, .inr (10, [.ref (xa 1), .ref (xa 2), .ref (na 0), .ref (pa 0), .ref (xa 3), .ref (na 1), .ref (na 2), .ref (xa 4), .ref (xa 5), .ref (xa 6), .ref (xa 7), .ref (xa 8), .ref (xa 9), .int ot, .int mk, .int why, .long tp, .long bt, .int fa, .int fp]))] (va_A [(xa 0, .inr (10, [.ref (xa 1), .ref (xa 2), .ref (na 0), .ref (pa 0), .ref (xa 3), .ref (na 1), .ref (na 2), .ref (xa 4), .ref (xa 5), .ref (xa 6), .ref (xa 7), .ref (xa 8), .ref (xa 9), .int ot, .int mk, .int st, .long tp, .long bt, .int fa, .int fp]))] sz)) (va_A [(xa 0, .inr (10, [.ref (xa 1), .ref (xa 2), .ref (na 0), .ref (pa 0), .ref (xa 3), .ref (na 1), .ref (na 2), .ref (xa 4), .ref (xa 5), .ref (xa 6), .ref (xa 7), .ref (xa 8), .ref (xa 9), .int ot, .int mk, .int st, .long tp, .long bt, .int fa, .int fp]))] sz)) 0 0 (va_A [(xa 0, .inr (10, [.ref (xa 1), .ref (xa 2), .ref (na 0), .ref (pa 0), .ref (xa 3), .ref (na 1), .ref (na 2), .ref (xa 4), .ref (xa 5), .ref (xa 6), .ref (xa 7), .ref (xa 8), .ref (xa 9), .int ot, .int mk, .int st, .long tp, .long bt, .int fa, .int fp]))] sz) := by
  refine Met.ofW (cc := cX11_refuse) (maxL := 2) (ret := (some .int)) (by decide) rfl ?_
  intro p e s m args below meth c s₁ B hml hv
  obtain ⟨rfl, hsz, hP, hE, hD0⟩ := hv
  have hx := B.exec
  have hb := B.bytes
  have hr := B.returns
  have hts := atoms_spec (ws := vc_refuse) B.pre
  have hown : s.vm.findClass RX11 = some m.cls := findClass_of_methodNamed B.named
  have hlocks := B.notSynchronized
  subst hsz
  have hD := hD0.self (sz := s.heap.size)
  generalize hAe : va_A [(xa 0, .inr (10, [.ref (xa 1), .ref (xa 2), .ref (na 0), .ref (pa 0), .ref (xa 3), .ref (na 1), .ref (na 2), .ref (xa 4), .ref (xa 5), .ref (xa 6), .ref (xa 7), .ref (xa 8), .ref (xa 9), .int ot, .int mk, .int st, .long tp, .long bt, .int fa, .int fp]))] s.heap.size = A at hD ⊢
  have hA : ∀ q : Nat, s.heap.size ≤ q → A q := fun q h => by rw [← hAe]; exact Or.inr h
  have hS : va_S A s.heap s.heap [] := va_S.rf
  have hK := hE.1
  have hP : va_P D vwCl [(xa 0, .inr (10, [.ref (xa 1), .ref (xa 2), .ref (na 0), .ref (pa 0), .ref (xa 3), .ref (na 1), .ref (na 2), .ref (xa 4), .ref (xa 5), .ref (xa 6), .ref (xa 7), .ref (xa 8), .ref (xa 9), .int ot, .int mk, .int st, .long tp, .long bt, .int fa, .int fp]))] s.heap := hP
  have hl := lv_entry ([.ref (xa 0), .int why]) (n := 2) (Nat.le_of_ble_eq_true rfl)
  rw [lg_entry_eq]
  generalize (lg_sl ([.ref (xa 0), .int why]) ++ List.replicate (2 - (lg_sl ([.ref (xa 0), .int why])).length) Slot.unset).toArray = ls at hl ⊢
  have hl : lv_has ls 2 [(0, .ref (xa 0)), (1, .int why)] := hl
  refine lv_aload_n hx hb dX11_refuse_0 rfl (lv_at hl 0 rfl) ?_
  refine lv_iload_n hx hb dX11_refuse_1 rfl (lv_at hl 1 rfl) ?_
  refine va_put (D := D) (ci := 10) (v := .int why) (ty := .int) (C := RX11) (T := TX11) (N := 20) hx hb hts ic_refuse_X11 tyX11 tyX11_ok nmX11 hown hK hP hD hS 0 rfl rfl 15 (by decide) (hts (.fieldLink RX11 103 "SaltStreet" "status" "I") (List.mem_of_getElem? (i := 1) rfl)) (fun _ h9 => h9) rfl (by decide +kernel) rfl rfl (Nat.le_of_ble_eq_true rfl) dX11_refuse_2 (fun H locs hP hD hS => ?_)
  have hP : va_P D vwCl [(xa 0, .inr (10, [.ref (xa 1), .ref (xa 2), .ref (na 0), .ref (pa 0), .ref (xa 3), .ref (na 1), .ref (na 2), .ref (xa 4), .ref (xa 5), .ref (xa 6), .ref (xa 7), .ref (xa 8), .ref (xa 9), .int ot, .int mk, .int why, .long tp, .long bt, .int fa, .int fp]))] H := hP
  have hD : va_D A [(xa 0, .inr (10, [.ref (xa 1), .ref (xa 2), .ref (na 0), .ref (pa 0), .ref (xa 3), .ref (na 1), .ref (na 2), .ref (xa 4), .ref (xa 5), .ref (xa 6), .ref (xa 7), .ref (xa 8), .ref (xa 9), .int ot, .int mk, .int why, .long tp, .long bt, .int fa, .int fp]))] := hD
  refine lv_iconst (v := (-1)) hx hb dX11_refuse_5 (by decide) ?_
  have hP9 := hP.sub (ws' := [(xa 0, .inr (10, [.ref (xa 1), .ref (xa 2), .ref (na 0), .ref (pa 0), .ref (xa 3), .ref (na 1), .ref (na 2), .ref (xa 4), .ref (xa 5), .ref (xa 6), .ref (xa 7), .ref (xa 8), .ref (xa 9), .int ot, .int mk, .int why, .long tp, .long bt, .int fa, .int fp]))]) [0] rfl
  have hD9 := hD.sub (ws' := [(xa 0, .inr (10, [.ref (xa 1), .ref (xa 2), .ref (na 0), .ref (pa 0), .ref (xa 3), .ref (na 1), .ref (na 2), .ref (xa 4), .ref (xa 5), .ref (xa 6), .ref (xa 7), .ref (xa 8), .ref (xa 9), .int ot, .int mk, .int why, .long tp, .long bt, .int fa, .int fp]))]) [0] (by decide) rfl
  exact W.iret (v := (-1)) hx hb hr (fun t9 ht hW => ⟨⟨(-1), (), rfl, rfl, ⟨by rw [ht]; exact hP9, hD9⟩⟩, hS.F ht⟩) hS.2.2 dX11_refuse_6
theorem dX11_answer_0 : decode cX11_answer 0 = .ok (.aload_n 0, 1) := by decide +kernel
theorem dX11_answer_1 : decode cX11_answer 1 = .ok (.iconst 0, 1) := by decide +kernel
theorem dX11_answer_2 : decode cX11_answer 2 = .ok (.putfield 103, 3) := by decide +kernel
theorem dX11_answer_5 : decode cX11_answer 5 = .ok (.iload_n 1, 1) := by decide +kernel
theorem dX11_answer_6 : decode cX11_answer 6 = .ok (.ireturn, 1) := by decide +kernel
def vdc_answer : List Cond := [.code yX11_answer cX11_answer 2 (some .int), .fieldLink RX11 103 "SaltStreet" "status" "I"]
def vc_answer : List Cond := vdc_answer ++ (wsX110 ++ ([] : List Cond))
theorem ic_answer_X11 : ∀ w ∈ wsX110, w ∈ vc_answer := fun _ h => List.mem_append_right _ (List.mem_append_left _ h)
set_option maxHeartbeats 4000000 in
set_option maxRecDepth 100000 in
theorem c_answer (l : Launch) (D : va_G) (kc : Nat → ClassId) (sz : Nat) (xa : Nat → Nat) (na : Nat → Nat) (pa : Nat → Nat) (ot : Int32) (mk : Int32) (st : Int32) (tp : Int64) (bt : Int64) (fa : Int32) (fp : Int32) (v : Int32) : Met l yX11_answer vc_answer ({ frames := 0, cells := 0, slots := 0, locals := 0 }) (va_Pc [.ref (xa 0), .int v] (wPre D kc [(xa 0, .inr (10, [.ref (xa 1), .ref (xa 2), .ref (na 0), .ref (pa 0), .ref (xa 3), .ref (na 1), .ref (na 2), .ref (xa 4), .ref (xa 5), .ref (xa 6), .ref (xa 7), .ref (xa 8), .ref (xa 9), .int ot, .int mk, .int st, .long tp, .long bt, .int fa, .int fp]))] sz)) (va_Qi (fun (r : Int32) (_ : Unit) => r = v) (wPost D [(xa 0, .inr (10, [.ref (xa 1), .ref (xa 2), .ref (na 0), .ref (pa 0), .ref (xa 3), .ref (na 1), .ref (na 2), .ref (xa 4), .ref (xa 5), .ref (xa 6), .ref (xa 7), .ref (xa 8), .ref (xa 9), .int ot, .int mk, .int 0, .long tp, .long bt, .int fa, .int fp]))] (va_A [(xa 0, .inr (10, [.ref (xa 1), .ref (xa 2), .ref (na 0), .ref (pa 0), .ref (xa 3), .ref (na 1), .ref (na 2), .ref (xa 4), .ref (xa 5), .ref (xa 6), .ref (xa 7), .ref (xa 8), .ref (xa 9), .int ot, .int mk, .int st, .long tp, .long bt, .int fa, .int fp]))] sz)) (va_A [(xa 0, .inr (10, [.ref (xa 1), .ref (xa 2), .ref (na 0), .ref (pa 0), .ref (xa 3), .ref (na 1), .ref (na 2), .ref (xa 4), .ref (xa 5), .ref (xa 6), .ref (xa 7), .ref (xa 8), .ref (xa 9), .int ot, .int mk, .int st, .long tp, .long bt, .int fa, .int fp]))] sz)) 0 0 (va_A [(xa 0, .inr (10, [.ref (xa 1), .ref (xa 2), .ref (na 0), .ref (pa 0), .ref (xa 3), .ref (na 1), .ref (na 2), .ref (xa 4), .ref (xa 5), .ref (xa 6), .ref (xa 7), .ref (xa 8), .ref (xa 9), .int ot, .int mk, .int st, .long tp, .long bt, .int fa, .int fp]))] sz) := by
  refine Met.ofW (cc := cX11_answer) (maxL := 2) (ret := (some .int)) (by decide) rfl ?_
  intro p e s m args below meth c s₁ B hml hv
  obtain ⟨rfl, hsz, hP, hE, hD0⟩ := hv
  have hx := B.exec
  have hb := B.bytes
  have hr := B.returns
  have hts := atoms_spec (ws := vc_answer) B.pre
  have hown : s.vm.findClass RX11 = some m.cls := findClass_of_methodNamed B.named
  have hlocks := B.notSynchronized
  subst hsz
  have hD := hD0.self (sz := s.heap.size)
  generalize hAe : va_A [(xa 0, .inr (10, [.ref (xa 1), .ref (xa 2), .ref (na 0), .ref (pa 0), .ref (xa 3), .ref (na 1), .ref (na 2), .ref (xa 4), .ref (xa 5), .ref (xa 6), .ref (xa 7), .ref (xa 8), .ref (xa 9), .int ot, .int mk, .int st, .long tp, .long bt, .int fa, .int fp]))] s.heap.size = A at hD ⊢
  have hA : ∀ q : Nat, s.heap.size ≤ q → A q := fun q h => by rw [← hAe]; exact Or.inr h
  have hS : va_S A s.heap s.heap [] := va_S.rf
  have hK := hE.1
  have hP : va_P D vwCl [(xa 0, .inr (10, [.ref (xa 1), .ref (xa 2), .ref (na 0), .ref (pa 0), .ref (xa 3), .ref (na 1), .ref (na 2), .ref (xa 4), .ref (xa 5), .ref (xa 6), .ref (xa 7), .ref (xa 8), .ref (xa 9), .int ot, .int mk, .int st, .long tp, .long bt, .int fa, .int fp]))] s.heap := hP
  have hl := lv_entry ([.ref (xa 0), .int v]) (n := 2) (Nat.le_of_ble_eq_true rfl)
  rw [lg_entry_eq]
  generalize (lg_sl ([.ref (xa 0), .int v]) ++ List.replicate (2 - (lg_sl ([.ref (xa 0), .int v])).length) Slot.unset).toArray = ls at hl ⊢
  have hl : lv_has ls 2 [(0, .ref (xa 0)), (1, .int v)] := hl
  refine lv_aload_n hx hb dX11_answer_0 rfl (lv_at hl 0 rfl) ?_
  refine lv_iconst (v := 0) hx hb dX11_answer_1 (by decide) ?_
  refine va_put (D := D) (ci := 10) (v := .int 0) (ty := .int) (C := RX11) (T := TX11) (N := 20) hx hb hts ic_answer_X11 tyX11 tyX11_ok nmX11 hown hK hP hD hS 0 rfl rfl 15 (by decide) (hts (.fieldLink RX11 103 "SaltStreet" "status" "I") (List.mem_of_getElem? (i := 1) rfl)) (fun _ h9 => h9) rfl (by decide +kernel) rfl rfl (Nat.le_of_ble_eq_true rfl) dX11_answer_2 (fun H locs hP hD hS => ?_)
  have hP : va_P D vwCl [(xa 0, .inr (10, [.ref (xa 1), .ref (xa 2), .ref (na 0), .ref (pa 0), .ref (xa 3), .ref (na 1), .ref (na 2), .ref (xa 4), .ref (xa 5), .ref (xa 6), .ref (xa 7), .ref (xa 8), .ref (xa 9), .int ot, .int mk, .int 0, .long tp, .long bt, .int fa, .int fp]))] H := hP
  have hD : va_D A [(xa 0, .inr (10, [.ref (xa 1), .ref (xa 2), .ref (na 0), .ref (pa 0), .ref (xa 3), .ref (na 1), .ref (na 2), .ref (xa 4), .ref (xa 5), .ref (xa 6), .ref (xa 7), .ref (xa 8), .ref (xa 9), .int ot, .int mk, .int 0, .long tp, .long bt, .int fa, .int fp]))] := hD
  refine lv_iload_n hx hb dX11_answer_5 rfl (lv_at hl 1 rfl) ?_
  have hP9 := hP.sub (ws' := [(xa 0, .inr (10, [.ref (xa 1), .ref (xa 2), .ref (na 0), .ref (pa 0), .ref (xa 3), .ref (na 1), .ref (na 2), .ref (xa 4), .ref (xa 5), .ref (xa 6), .ref (xa 7), .ref (xa 8), .ref (xa 9), .int ot, .int mk, .int 0, .long tp, .long bt, .int fa, .int fp]))]) [0] rfl
  have hD9 := hD.sub (ws' := [(xa 0, .inr (10, [.ref (xa 1), .ref (xa 2), .ref (na 0), .ref (pa 0), .ref (xa 3), .ref (na 1), .ref (na 2), .ref (xa 4), .ref (xa 5), .ref (xa 6), .ref (xa 7), .ref (xa 8), .ref (xa 9), .int ot, .int mk, .int 0, .long tp, .long bt, .int fa, .int fp]))]) [0] (by decide) rfl
  exact W.iret (v := v) hx hb hr (fun t9 ht hW => ⟨⟨v, (), rfl, rfl, ⟨by rw [ht]; exact hP9, hD9⟩⟩, hS.F ht⟩) hS.2.2 dX11_answer_6
theorem dX11_granted_0 : decode cX11_granted 0 = .ok (.aload_n 0, 1) := by decide +kernel
theorem dX11_granted_1 : decode cX11_granted 1 = .ok (.iconst 0, 1) := by decide +kernel
theorem dX11_granted_2 : decode cX11_granted 2 = .ok (.putfield 103, 3) := by decide +kernel
theorem dX11_granted_5 : decode cX11_granted 5 = .ok (.iconst 1, 1) := by decide +kernel
theorem dX11_granted_6 : decode cX11_granted 6 = .ok (.ireturn, 1) := by decide +kernel
def vdc_granted : List Cond := [.code yX11_granted cX11_granted 1 (some .boolean), .fieldLink RX11 103 "SaltStreet" "status" "I"]
def vc_granted : List Cond := vdc_granted ++ (wsX110 ++ ([] : List Cond))
theorem ic_granted_X11 : ∀ w ∈ wsX110, w ∈ vc_granted := fun _ h => List.mem_append_right _ (List.mem_append_left _ h)
set_option maxHeartbeats 4000000 in
set_option maxRecDepth 100000 in
theorem c_granted (l : Launch) (D : va_G) (kc : Nat → ClassId) (sz : Nat) (xa : Nat → Nat) (na : Nat → Nat) (pa : Nat → Nat) (ot : Int32) (mk : Int32) (st : Int32) (tp : Int64) (bt : Int64) (fa : Int32) (fp : Int32) : Met l yX11_granted vc_granted ({ frames := 0, cells := 0, slots := 0, locals := 0 }) (va_Pc [.ref (xa 0)] (wPre D kc [(xa 0, .inr (10, [.ref (xa 1), .ref (xa 2), .ref (na 0), .ref (pa 0), .ref (xa 3), .ref (na 1), .ref (na 2), .ref (xa 4), .ref (xa 5), .ref (xa 6), .ref (xa 7), .ref (xa 8), .ref (xa 9), .int ot, .int mk, .int st, .long tp, .long bt, .int fa, .int fp]))] sz)) (va_Qi (fun (r : Int32) (_ : Unit) => r = 1) (wPost D [(xa 0, .inr (10, [.ref (xa 1), .ref (xa 2), .ref (na 0), .ref (pa 0), .ref (xa 3), .ref (na 1), .ref (na 2), .ref (xa 4), .ref (xa 5), .ref (xa 6), .ref (xa 7), .ref (xa 8), .ref (xa 9), .int ot, .int mk, .int 0, .long tp, .long bt, .int fa, .int fp]))] (va_A [(xa 0, .inr (10, [.ref (xa 1), .ref (xa 2), .ref (na 0), .ref (pa 0), .ref (xa 3), .ref (na 1), .ref (na 2), .ref (xa 4), .ref (xa 5), .ref (xa 6), .ref (xa 7), .ref (xa 8), .ref (xa 9), .int ot, .int mk, .int st, .long tp, .long bt, .int fa, .int fp]))] sz)) (va_A [(xa 0, .inr (10, [.ref (xa 1), .ref (xa 2), .ref (na 0), .ref (pa 0), .ref (xa 3), .ref (na 1), .ref (na 2), .ref (xa 4), .ref (xa 5), .ref (xa 6), .ref (xa 7), .ref (xa 8), .ref (xa 9), .int ot, .int mk, .int st, .long tp, .long bt, .int fa, .int fp]))] sz)) 0 0 (va_A [(xa 0, .inr (10, [.ref (xa 1), .ref (xa 2), .ref (na 0), .ref (pa 0), .ref (xa 3), .ref (na 1), .ref (na 2), .ref (xa 4), .ref (xa 5), .ref (xa 6), .ref (xa 7), .ref (xa 8), .ref (xa 9), .int ot, .int mk, .int st, .long tp, .long bt, .int fa, .int fp]))] sz) := by
  refine Met.ofW (cc := cX11_granted) (maxL := 1) (ret := (some .boolean)) (by decide) rfl ?_
  intro p e s m args below meth c s₁ B hml hv
  obtain ⟨rfl, hsz, hP, hE, hD0⟩ := hv
  have hx := B.exec
  have hb := B.bytes
  have hr := B.returns
  have hts := atoms_spec (ws := vc_granted) B.pre
  have hown : s.vm.findClass RX11 = some m.cls := findClass_of_methodNamed B.named
  have hlocks := B.notSynchronized
  subst hsz
  have hD := hD0.self (sz := s.heap.size)
  generalize hAe : va_A [(xa 0, .inr (10, [.ref (xa 1), .ref (xa 2), .ref (na 0), .ref (pa 0), .ref (xa 3), .ref (na 1), .ref (na 2), .ref (xa 4), .ref (xa 5), .ref (xa 6), .ref (xa 7), .ref (xa 8), .ref (xa 9), .int ot, .int mk, .int st, .long tp, .long bt, .int fa, .int fp]))] s.heap.size = A at hD ⊢
  have hA : ∀ q : Nat, s.heap.size ≤ q → A q := fun q h => by rw [← hAe]; exact Or.inr h
  have hS : va_S A s.heap s.heap [] := va_S.rf
  have hK := hE.1
  have hP : va_P D vwCl [(xa 0, .inr (10, [.ref (xa 1), .ref (xa 2), .ref (na 0), .ref (pa 0), .ref (xa 3), .ref (na 1), .ref (na 2), .ref (xa 4), .ref (xa 5), .ref (xa 6), .ref (xa 7), .ref (xa 8), .ref (xa 9), .int ot, .int mk, .int st, .long tp, .long bt, .int fa, .int fp]))] s.heap := hP
  have hl := lv_entry ([.ref (xa 0)]) (n := 1) (Nat.le_of_ble_eq_true rfl)
  rw [lg_entry_eq]
  generalize (lg_sl ([.ref (xa 0)]) ++ List.replicate (1 - (lg_sl ([.ref (xa 0)])).length) Slot.unset).toArray = ls at hl ⊢
  have hl : lv_has ls 1 [(0, .ref (xa 0))] := hl
  refine lv_aload_n hx hb dX11_granted_0 rfl (lv_at hl 0 rfl) ?_
  refine lv_iconst (v := 0) hx hb dX11_granted_1 (by decide) ?_
  refine va_put (D := D) (ci := 10) (v := .int 0) (ty := .int) (C := RX11) (T := TX11) (N := 20) hx hb hts ic_granted_X11 tyX11 tyX11_ok nmX11 hown hK hP hD hS 0 rfl rfl 15 (by decide) (hts (.fieldLink RX11 103 "SaltStreet" "status" "I") (List.mem_of_getElem? (i := 1) rfl)) (fun _ h9 => h9) rfl (by decide +kernel) rfl rfl (Nat.le_of_ble_eq_true rfl) dX11_granted_2 (fun H locs hP hD hS => ?_)
  have hP : va_P D vwCl [(xa 0, .inr (10, [.ref (xa 1), .ref (xa 2), .ref (na 0), .ref (pa 0), .ref (xa 3), .ref (na 1), .ref (na 2), .ref (xa 4), .ref (xa 5), .ref (xa 6), .ref (xa 7), .ref (xa 8), .ref (xa 9), .int ot, .int mk, .int 0, .long tp, .long bt, .int fa, .int fp]))] H := hP
  have hD : va_D A [(xa 0, .inr (10, [.ref (xa 1), .ref (xa 2), .ref (na 0), .ref (pa 0), .ref (xa 3), .ref (na 1), .ref (na 2), .ref (xa 4), .ref (xa 5), .ref (xa 6), .ref (xa 7), .ref (xa 8), .ref (xa 9), .int ot, .int mk, .int 0, .long tp, .long bt, .int fa, .int fp]))] := hD
  refine lv_iconst (v := 1) hx hb dX11_granted_5 (by decide) ?_
  have hP9 := hP.sub (ws' := [(xa 0, .inr (10, [.ref (xa 1), .ref (xa 2), .ref (na 0), .ref (pa 0), .ref (xa 3), .ref (na 1), .ref (na 2), .ref (xa 4), .ref (xa 5), .ref (xa 6), .ref (xa 7), .ref (xa 8), .ref (xa 9), .int ot, .int mk, .int 0, .long tp, .long bt, .int fa, .int fp]))]) [0] rfl
  have hD9 := hD.sub (ws' := [(xa 0, .inr (10, [.ref (xa 1), .ref (xa 2), .ref (na 0), .ref (pa 0), .ref (xa 3), .ref (na 1), .ref (na 2), .ref (xa 4), .ref (xa 5), .ref (xa 6), .ref (xa 7), .ref (xa 8), .ref (xa 9), .int ot, .int mk, .int 0, .long tp, .long bt, .int fa, .int fp]))]) [0] (by decide) rfl
  exact W.zret (v := 1) hx hb hr rfl (fun t9 ht hW => ⟨⟨1, (), rfl, rfl, ⟨by rw [ht]; exact hP9, hD9⟩⟩, hS.F ht⟩) hS.2.2 dX11_granted_6
theorem dX11_refused_0 : decode cX11_refused 0 = .ok (.aload_n 0, 1) := by decide +kernel
theorem dX11_refused_1 : decode cX11_refused 1 = .ok (.iload_n 1, 1) := by decide +kernel
theorem dX11_refused_2 : decode cX11_refused 2 = .ok (.putfield 103, 3) := by decide +kernel
theorem dX11_refused_5 : decode cX11_refused 5 = .ok (.iconst 0, 1) := by decide +kernel
theorem dX11_refused_6 : decode cX11_refused 6 = .ok (.ireturn, 1) := by decide +kernel
def vdc_refused : List Cond := [.code yX11_refused cX11_refused 2 (some .boolean), .fieldLink RX11 103 "SaltStreet" "status" "I"]
def vc_refused : List Cond := vdc_refused ++ (wsX110 ++ ([] : List Cond))
theorem ic_refused_X11 : ∀ w ∈ wsX110, w ∈ vc_refused := fun _ h => List.mem_append_right _ (List.mem_append_left _ h)
set_option maxHeartbeats 4000000 in
set_option maxRecDepth 100000 in
theorem c_refused (l : Launch) (D : va_G) (kc : Nat → ClassId) (sz : Nat) (xa : Nat → Nat) (na : Nat → Nat) (pa : Nat → Nat) (ot : Int32) (mk : Int32) (st : Int32) (tp : Int64) (bt : Int64) (fa : Int32) (fp : Int32) (why : Int32) : Met l yX11_refused vc_refused ({ frames := 0, cells := 0, slots := 0, locals := 0 }) (va_Pc [.ref (xa 0), .int why] (wPre D kc [(xa 0, .inr (10, [.ref (xa 1), .ref (xa 2), .ref (na 0), .ref (pa 0), .ref (xa 3), .ref (na 1), .ref (na 2), .ref (xa 4), .ref (xa 5), .ref (xa 6), .ref (xa 7), .ref (xa 8), .ref (xa 9), .int ot, .int mk, .int st, .long tp, .long bt, .int fa, .int fp]))] sz)) (va_Qi (fun (r : Int32) (_ : Unit) => r = 0) (wPost D [(xa 0, .inr (10, [.ref (xa 1), .ref (xa 2), .ref (na 0), .ref (pa 0), .ref (xa 3), .ref (na 1), .ref (na 2), .ref (xa 4), .ref (xa 5), .ref (xa 6), .ref (xa 7), .ref (xa 8), .ref (xa 9), .int ot, .int mk, .int why, .long tp, .long bt, .int fa, .int fp]))] (va_A [(xa 0, .inr (10, [.ref (xa 1), .ref (xa 2), .ref (na 0), .ref (pa 0), .ref (xa 3), .ref (na 1), .ref (na 2), .ref (xa 4), .ref (xa 5), .ref (xa 6), .ref (xa 7), .ref (xa 8), .ref (xa 9), .int ot, .int mk, .int st, .long tp, .long bt, .int fa, .int fp]))] sz)) (va_A [(xa 0, .inr (10, [.ref (xa 1), .ref (xa 2), .ref (na 0), .ref (pa 0), .ref (xa 3), .ref (na 1), .ref (na 2), .ref (xa 4), .ref (xa 5), .ref (xa 6), .ref (xa 7), .ref (xa 8), .ref (xa 9), .int ot, .int mk, .int st, .long tp, .long bt, .int fa, .int fp]))] sz)) 0 0 (va_A [(xa 0, .inr (10, [.ref (xa 1), .ref (xa 2), .ref (na 0), .ref (pa 0), .ref (xa 3), .ref (na 1), .ref (na 2), .ref (xa 4), .ref (xa 5), .ref (xa 6), .ref (xa 7), .ref (xa 8), .ref (xa 9), .int ot, .int mk, .int st, .long tp, .long bt, .int fa, .int fp]))] sz) := by
  refine Met.ofW (cc := cX11_refused) (maxL := 2) (ret := (some .boolean)) (by decide) rfl ?_
  intro p e s m args below meth c s₁ B hml hv
  obtain ⟨rfl, hsz, hP, hE, hD0⟩ := hv
  have hx := B.exec
  have hb := B.bytes
  have hr := B.returns
  have hts := atoms_spec (ws := vc_refused) B.pre
  have hown : s.vm.findClass RX11 = some m.cls := findClass_of_methodNamed B.named
  have hlocks := B.notSynchronized
  subst hsz
  have hD := hD0.self (sz := s.heap.size)
  generalize hAe : va_A [(xa 0, .inr (10, [.ref (xa 1), .ref (xa 2), .ref (na 0), .ref (pa 0), .ref (xa 3), .ref (na 1), .ref (na 2), .ref (xa 4), .ref (xa 5), .ref (xa 6), .ref (xa 7), .ref (xa 8), .ref (xa 9), .int ot, .int mk, .int st, .long tp, .long bt, .int fa, .int fp]))] s.heap.size = A at hD ⊢
  have hA : ∀ q : Nat, s.heap.size ≤ q → A q := fun q h => by rw [← hAe]; exact Or.inr h
  have hS : va_S A s.heap s.heap [] := va_S.rf
  have hK := hE.1
  have hP : va_P D vwCl [(xa 0, .inr (10, [.ref (xa 1), .ref (xa 2), .ref (na 0), .ref (pa 0), .ref (xa 3), .ref (na 1), .ref (na 2), .ref (xa 4), .ref (xa 5), .ref (xa 6), .ref (xa 7), .ref (xa 8), .ref (xa 9), .int ot, .int mk, .int st, .long tp, .long bt, .int fa, .int fp]))] s.heap := hP
  have hl := lv_entry ([.ref (xa 0), .int why]) (n := 2) (Nat.le_of_ble_eq_true rfl)
  rw [lg_entry_eq]
  generalize (lg_sl ([.ref (xa 0), .int why]) ++ List.replicate (2 - (lg_sl ([.ref (xa 0), .int why])).length) Slot.unset).toArray = ls at hl ⊢
  have hl : lv_has ls 2 [(0, .ref (xa 0)), (1, .int why)] := hl
  refine lv_aload_n hx hb dX11_refused_0 rfl (lv_at hl 0 rfl) ?_
  refine lv_iload_n hx hb dX11_refused_1 rfl (lv_at hl 1 rfl) ?_
  refine va_put (D := D) (ci := 10) (v := .int why) (ty := .int) (C := RX11) (T := TX11) (N := 20) hx hb hts ic_refused_X11 tyX11 tyX11_ok nmX11 hown hK hP hD hS 0 rfl rfl 15 (by decide) (hts (.fieldLink RX11 103 "SaltStreet" "status" "I") (List.mem_of_getElem? (i := 1) rfl)) (fun _ h9 => h9) rfl (by decide +kernel) rfl rfl (Nat.le_of_ble_eq_true rfl) dX11_refused_2 (fun H locs hP hD hS => ?_)
  have hP : va_P D vwCl [(xa 0, .inr (10, [.ref (xa 1), .ref (xa 2), .ref (na 0), .ref (pa 0), .ref (xa 3), .ref (na 1), .ref (na 2), .ref (xa 4), .ref (xa 5), .ref (xa 6), .ref (xa 7), .ref (xa 8), .ref (xa 9), .int ot, .int mk, .int why, .long tp, .long bt, .int fa, .int fp]))] H := hP
  have hD : va_D A [(xa 0, .inr (10, [.ref (xa 1), .ref (xa 2), .ref (na 0), .ref (pa 0), .ref (xa 3), .ref (na 1), .ref (na 2), .ref (xa 4), .ref (xa 5), .ref (xa 6), .ref (xa 7), .ref (xa 8), .ref (xa 9), .int ot, .int mk, .int why, .long tp, .long bt, .int fa, .int fp]))] := hD
  refine lv_iconst (v := 0) hx hb dX11_refused_5 (by decide) ?_
  have hP9 := hP.sub (ws' := [(xa 0, .inr (10, [.ref (xa 1), .ref (xa 2), .ref (na 0), .ref (pa 0), .ref (xa 3), .ref (na 1), .ref (na 2), .ref (xa 4), .ref (xa 5), .ref (xa 6), .ref (xa 7), .ref (xa 8), .ref (xa 9), .int ot, .int mk, .int why, .long tp, .long bt, .int fa, .int fp]))]) [0] rfl
  have hD9 := hD.sub (ws' := [(xa 0, .inr (10, [.ref (xa 1), .ref (xa 2), .ref (na 0), .ref (pa 0), .ref (xa 3), .ref (na 1), .ref (na 2), .ref (xa 4), .ref (xa 5), .ref (xa 6), .ref (xa 7), .ref (xa 8), .ref (xa 9), .int ot, .int mk, .int why, .long tp, .long bt, .int fa, .int fp]))]) [0] (by decide) rfl
  exact W.zret (v := 0) hx hb hr rfl (fun t9 ht hW => ⟨⟨0, (), rfl, rfl, ⟨by rw [ht]; exact hP9, hD9⟩⟩, hS.F ht⟩) hS.2.2 dX11_refused_6
theorem dX11_isHouse_0 : decode cX11_isHouse 0 = .ok (.iload_n 1, 1) := by decide +kernel
theorem dX11_isHouse_1 : decode cX11_isHouse 1 = .ok (.iconst 0, 1) := by decide +kernel
theorem dX11_isHouse_2 : decode cX11_isHouse 2 = .ok (.aload_n 0, 1) := by decide +kernel
theorem dX11_isHouse_3 : decode cX11_isHouse 3 = .ok (.getfield 37, 3) := by decide +kernel
theorem dX11_isHouse_6 : decode cX11_isHouse 6 = .ok (.getfield 198, 3) := by decide +kernel
theorem dX11_isHouse_9 : decode cX11_isHouse 9 = .ok (.iconst 1, 1) := by decide +kernel
theorem dX11_isHouse_10 : decode cX11_isHouse 10 = .ok (.isub, 1) := by decide +kernel
theorem dX11_isHouse_11 : decode cX11_isHouse 11 = .ok (.invokestatic 113, 3) := by decide +kernel
theorem dX11_isHouse_14 : decode cX11_isHouse 14 = .ok (.ireturn, 1) := by decide +kernel
def vdc_isHouse : List Cond := [.code yX11_isHouse cX11_isHouse 2 (some .boolean), .fieldLink RX11 37 "SaltStreet" "plan" "LSaltStreet$Plan;", .methodLink RX11 113 yX11_within, .code yX11_within cX11_within 3 (some .boolean), .static yX11_within, .initialized RX11]
def vc_isHouse : List Cond := vdc_isHouse ++ (wsX110 ++ (wsX40 ++ ([] : List Cond)))
theorem ic_isHouse_X11 : ∀ w ∈ wsX110, w ∈ vc_isHouse := fun _ h => List.mem_append_right _ (List.mem_append_left _ h)
theorem ic_isHouse_X4 : ∀ w ∈ wsX40, w ∈ vc_isHouse := fun _ h => List.mem_append_right _ (List.mem_append_right _ (List.mem_append_left _ h))
set_option maxRecDepth 20000 in
theorem gc_isHouse_113_c_within : GoodIn vc_isHouse (va_wsS RX11 113 yX11_within vc_within) := (goodIn_app (goodIn_r _ [2, 4, 5] rfl (by decide +kernel)) (goodIn_app (goodIn_r vdc_within [3] rfl (by decide +kernel)) goodIn_nil))
set_option maxHeartbeats 4000000 in
set_option maxRecDepth 100000 in
theorem c_isHouse (l : Launch) (D : va_G) (kc : Nat → ClassId) (sz : Nat) (xa : Nat → Nat) (na : Nat → Nat) (pa : Nat → Nat) (ot : Int32) (mk : Int32) (st : Int32) (tp : Int64) (bt : Int64) (fa : Int32) (fp : Int32) (h : Int32) : Met l yX11_isHouse vc_isHouse ({ frames := 1, cells := 0, slots := 0, locals := 22 }) (va_Pc [.ref (xa 0), .int h] (wPre D kc [(xa 0, .inr (10, [.ref (xa 1), .ref (xa 2), .ref (na 0), .ref (pa 0), .ref (xa 3), .ref (na 1), .ref (na 2), .ref (xa 4), .ref (xa 5), .ref (xa 6), .ref (xa 7), .ref (xa 8), .ref (xa 9), .int ot, .int mk, .int st, .long tp, .long bt, .int fa, .int fp])), (na 1, .inr (4, [.ref (na 4), .ref (na 5), .ref (na 6), .ref (na 7), .ref (na 8), .ref (na 9), .ref (na 10), .ref (na 11), .ref (na 12), .ref (na 13), .ref (na 14), .ref (na 15), .int 0, .int 0, .int 0, .int 0, .int 0, .int 0, .int 5, .int 0]))] sz)) (va_Qi (fun (r : Int32) (_ : Unit) => r = 0) (wPost D [(xa 0, .inr (10, [.ref (xa 1), .ref (xa 2), .ref (na 0), .ref (pa 0), .ref (xa 3), .ref (na 1), .ref (na 2), .ref (xa 4), .ref (xa 5), .ref (xa 6), .ref (xa 7), .ref (xa 8), .ref (xa 9), .int ot, .int mk, .int st, .long tp, .long bt, .int fa, .int fp])), (na 1, .inr (4, [.ref (na 4), .ref (na 5), .ref (na 6), .ref (na 7), .ref (na 8), .ref (na 9), .ref (na 10), .ref (na 11), .ref (na 12), .ref (na 13), .ref (na 14), .ref (na 15), .int 0, .int 0, .int 0, .int 0, .int 0, .int 0, .int 5, .int 0]))] (va_A [(xa 0, .inr (10, [.ref (xa 1), .ref (xa 2), .ref (na 0), .ref (pa 0), .ref (xa 3), .ref (na 1), .ref (na 2), .ref (xa 4), .ref (xa 5), .ref (xa 6), .ref (xa 7), .ref (xa 8), .ref (xa 9), .int ot, .int mk, .int st, .long tp, .long bt, .int fa, .int fp])), (na 1, .inr (4, [.ref (na 4), .ref (na 5), .ref (na 6), .ref (na 7), .ref (na 8), .ref (na 9), .ref (na 10), .ref (na 11), .ref (na 12), .ref (na 13), .ref (na 14), .ref (na 15), .int 0, .int 0, .int 0, .int 0, .int 0, .int 0, .int 5, .int 0]))] sz)) (va_A [(xa 0, .inr (10, [.ref (xa 1), .ref (xa 2), .ref (na 0), .ref (pa 0), .ref (xa 3), .ref (na 1), .ref (na 2), .ref (xa 4), .ref (xa 5), .ref (xa 6), .ref (xa 7), .ref (xa 8), .ref (xa 9), .int ot, .int mk, .int st, .long tp, .long bt, .int fa, .int fp])), (na 1, .inr (4, [.ref (na 4), .ref (na 5), .ref (na 6), .ref (na 7), .ref (na 8), .ref (na 9), .ref (na 10), .ref (na 11), .ref (na 12), .ref (na 13), .ref (na 14), .ref (na 15), .int 0, .int 0, .int 0, .int 0, .int 0, .int 0, .int 5, .int 0]))] sz)) 0 0 (va_A [(xa 0, .inr (10, [.ref (xa 1), .ref (xa 2), .ref (na 0), .ref (pa 0), .ref (xa 3), .ref (na 1), .ref (na 2), .ref (xa 4), .ref (xa 5), .ref (xa 6), .ref (xa 7), .ref (xa 8), .ref (xa 9), .int ot, .int mk, .int st, .long tp, .long bt, .int fa, .int fp])), (na 1, .inr (4, [.ref (na 4), .ref (na 5), .ref (na 6), .ref (na 7), .ref (na 8), .ref (na 9), .ref (na 10), .ref (na 11), .ref (na 12), .ref (na 13), .ref (na 14), .ref (na 15), .int 0, .int 0, .int 0, .int 0, .int 0, .int 0, .int 5, .int 0]))] sz) := by
  refine Met.ofW (cc := cX11_isHouse) (maxL := 2) (ret := (some .boolean)) (by decide) rfl ?_
  intro p e s m args below meth c s₁ B hml hv
  obtain ⟨rfl, hsz, hP, hE, hD0⟩ := hv
  have hx := B.exec
  have hb := B.bytes
  have hr := B.returns
  have hts := atoms_spec (ws := vc_isHouse) B.pre
  have hown : s.vm.findClass RX11 = some m.cls := findClass_of_methodNamed B.named
  have hlocks := B.notSynchronized
  subst hsz
  have hD := hD0.self (sz := s.heap.size)
  generalize hAe : va_A [(xa 0, .inr (10, [.ref (xa 1), .ref (xa 2), .ref (na 0), .ref (pa 0), .ref (xa 3), .ref (na 1), .ref (na 2), .ref (xa 4), .ref (xa 5), .ref (xa 6), .ref (xa 7), .ref (xa 8), .ref (xa 9), .int ot, .int mk, .int st, .long tp, .long bt, .int fa, .int fp])), (na 1, .inr (4, [.ref (na 4), .ref (na 5), .ref (na 6), .ref (na 7), .ref (na 8), .ref (na 9), .ref (na 10), .ref (na 11), .ref (na 12), .ref (na 13), .ref (na 14), .ref (na 15), .int 0, .int 0, .int 0, .int 0, .int 0, .int 0, .int 5, .int 0]))] s.heap.size = A at hD ⊢
  have hA : ∀ q : Nat, s.heap.size ≤ q → A q := fun q h => by rw [← hAe]; exact Or.inr h
  have hS : va_S A s.heap s.heap [] := va_S.rf
  have hK := hE.1
  have hP : va_P D vwCl [(xa 0, .inr (10, [.ref (xa 1), .ref (xa 2), .ref (na 0), .ref (pa 0), .ref (xa 3), .ref (na 1), .ref (na 2), .ref (xa 4), .ref (xa 5), .ref (xa 6), .ref (xa 7), .ref (xa 8), .ref (xa 9), .int ot, .int mk, .int st, .long tp, .long bt, .int fa, .int fp])), (na 1, .inr (4, [.ref (na 4), .ref (na 5), .ref (na 6), .ref (na 7), .ref (na 8), .ref (na 9), .ref (na 10), .ref (na 11), .ref (na 12), .ref (na 13), .ref (na 14), .ref (na 15), .int 0, .int 0, .int 0, .int 0, .int 0, .int 0, .int 5, .int 0]))] s.heap := hP
  have hl := lv_entry ([.ref (xa 0), .int h]) (n := 2) (Nat.le_of_ble_eq_true rfl)
  rw [lg_entry_eq]
  generalize (lg_sl ([.ref (xa 0), .int h]) ++ List.replicate (2 - (lg_sl ([.ref (xa 0), .int h])).length) Slot.unset).toArray = ls at hl ⊢
  have hl : lv_has ls 2 [(0, .ref (xa 0)), (1, .int h)] := hl
  refine lv_iload_n hx hb dX11_isHouse_0 rfl (lv_at hl 1 rfl) ?_
  refine lv_iconst (v := 0) hx hb dX11_isHouse_1 (by decide) ?_
  refine lv_aload_n hx hb dX11_isHouse_2 rfl (lv_at hl 0 rfl) ?_
  refine va_get (D := D) (ci := 10) (v := .ref (na 1)) (C := RX11) (T := TX11) (N := 20) hx hb hts ic_isHouse_X11 hown hK hP 0 rfl rfl 5 (by decide) (hts (.fieldLink RX11 37 "SaltStreet" "plan" "LSaltStreet$Plan;") (List.mem_of_getElem? (i := 1) rfl)) (fun _ h9 => h9) rfl dX11_isHouse_3 ?_
  refine va_getN (D := D) (ci := 4) (v := .int 0) (C := RX4) (T := TX4) (N := 20) hx hb hts ic_isHouse_X4 hown hK hP 1 rfl rfl 13 (by decide) (hE.nw 36 rfl) (fun _ h9 => h9) rfl dX11_isHouse_6 ?_
  refine lv_iconst (v := 1) hx hb dX11_isHouse_9 (by decide) ?_
  refine lv_isub hx hb dX11_isHouse_10 ?_
  refine lv_ci (y := (-1)) (by decide) ?_
  have hPc := hP.sub (ws' := []) [] rfl
  have hDc := hD.sub (ws' := []) [] (by decide) rfl
  have hFc := va_free (wc := []) hD hS hA [] rfl
  refine va_calli (va_runS (As := [.int h, .int 0, .int (-1)]) (rest := []) ⟨hx, hb, hml, hown, hts⟩ (c_within l D kc s.heap.size h 0 (-1)) (va_cwS 3 hts gc_isHouse_113_c_within rfl rfl rfl (by decide +kernel) ⟨Nat.le_of_ble_eq_true rfl, Nat.le_of_ble_eq_true rfl⟩) (preS_ok hPc hDc hE) rfl rfl hl.1 rfl (lv_room (Nat.le_of_ble_eq_true rfl)) dX11_isHouse_11 ⟨Nat.le_of_ble_eq_true rfl, Nat.le_of_ble_eq_true rfl⟩) hS (fun q _ h => hFc q h) hFc (fun r_11 u9 t9 H locs ht hvm hw hB hz1 hk1 hS => ?_)
  obtain ⟨hP1, hD1⟩ := hB
  rw [ht] at hP1
  obtain ⟨hP, hD⟩ := va_join (wr := [(xa 0, .inr (10, [.ref (xa 1), .ref (xa 2), .ref (na 0), .ref (pa 0), .ref (xa 3), .ref (na 1), .ref (na 2), .ref (xa 4), .ref (xa 5), .ref (xa 6), .ref (xa 7), .ref (xa 8), .ref (xa 9), .int ot, .int mk, .int st, .long tp, .long bt, .int fa, .int fp])), (na 1, .inr (4, [.ref (na 4), .ref (na 5), .ref (na 6), .ref (na 7), .ref (na 8), .ref (na 9), .ref (na 10), .ref (na 11), .ref (na 12), .ref (na 13), .ref (na 14), .ref (na 15), .int 0, .int 0, .int 0, .int 0, .int 0, .int 0, .int 5, .int 0]))]) (w1 := []) hP hD [] [0, 1] rfl rfl (by decide) (by decide) hk1 hFc hP1 hD1
  have hP : va_P D vwCl [(xa 0, .inr (10, [.ref (xa 1), .ref (xa 2), .ref (na 0), .ref (pa 0), .ref (xa 3), .ref (na 1), .ref (na 2), .ref (xa 4), .ref (xa 5), .ref (xa 6), .ref (xa 7), .ref (xa 8), .ref (xa 9), .int ot, .int mk, .int st, .long tp, .long bt, .int fa, .int fp])), (na 1, .inr (4, [.ref (na 4), .ref (na 5), .ref (na 6), .ref (na 7), .ref (na 8), .ref (na 9), .ref (na 10), .ref (na 11), .ref (na 12), .ref (na 13), .ref (na 14), .ref (na 15), .int 0, .int 0, .int 0, .int 0, .int 0, .int 0, .int 5, .int 0]))] H := hP
  have hD : va_D A [(xa 0, .inr (10, [.ref (xa 1), .ref (xa 2), .ref (na 0), .ref (pa 0), .ref (xa 3), .ref (na 1), .ref (na 2), .ref (xa 4), .ref (xa 5), .ref (xa 6), .ref (xa 7), .ref (xa 8), .ref (xa 9), .int ot, .int mk, .int st, .long tp, .long bt, .int fa, .int fp])), (na 1, .inr (4, [.ref (na 4), .ref (na 5), .ref (na 6), .ref (na 7), .ref (na 8), .ref (na 9), .ref (na 10), .ref (na 11), .ref (na 12), .ref (na 13), .ref (na 14), .ref (na 15), .int 0, .int 0, .int 0, .int 0, .int 0, .int 0, .int 5, .int 0]))] := hD
  subst hw
  refine lv_ci (y := 0) (bW_none _) ?_
  have hP9 := hP.sub (ws' := [(xa 0, .inr (10, [.ref (xa 1), .ref (xa 2), .ref (na 0), .ref (pa 0), .ref (xa 3), .ref (na 1), .ref (na 2), .ref (xa 4), .ref (xa 5), .ref (xa 6), .ref (xa 7), .ref (xa 8), .ref (xa 9), .int ot, .int mk, .int st, .long tp, .long bt, .int fa, .int fp])), (na 1, .inr (4, [.ref (na 4), .ref (na 5), .ref (na 6), .ref (na 7), .ref (na 8), .ref (na 9), .ref (na 10), .ref (na 11), .ref (na 12), .ref (na 13), .ref (na 14), .ref (na 15), .int 0, .int 0, .int 0, .int 0, .int 0, .int 0, .int 5, .int 0]))]) [0, 1] rfl
  have hD9 := hD.sub (ws' := [(xa 0, .inr (10, [.ref (xa 1), .ref (xa 2), .ref (na 0), .ref (pa 0), .ref (xa 3), .ref (na 1), .ref (na 2), .ref (xa 4), .ref (xa 5), .ref (xa 6), .ref (xa 7), .ref (xa 8), .ref (xa 9), .int ot, .int mk, .int st, .long tp, .long bt, .int fa, .int fp])), (na 1, .inr (4, [.ref (na 4), .ref (na 5), .ref (na 6), .ref (na 7), .ref (na 8), .ref (na 9), .ref (na 10), .ref (na 11), .ref (na 12), .ref (na 13), .ref (na 14), .ref (na 15), .int 0, .int 0, .int 0, .int 0, .int 0, .int 0, .int 5, .int 0]))]) [0, 1] (by decide) rfl
  exact W.zret (v := 0) hx hb hr rfl (fun t9 ht hW => ⟨⟨0, (), rfl, rfl, ⟨by rw [ht]; exact hP9, hD9⟩⟩, hS.F ht⟩) hS.2.2 dX11_isHouse_14
theorem dX11_isQuarrel_0 : decode cX11_isQuarrel 0 = .ok (.iload_n 1, 1) := by decide +kernel
theorem dX11_isQuarrel_1 : decode cX11_isQuarrel 1 = .ok (.iconst 0, 1) := by decide +kernel
theorem dX11_isQuarrel_2 : decode cX11_isQuarrel 2 = .ok (.aload_n 0, 1) := by decide +kernel
theorem dX11_isQuarrel_3 : decode cX11_isQuarrel 3 = .ok (.getfield 37, 3) := by decide +kernel
theorem dX11_isQuarrel_6 : decode cX11_isQuarrel 6 = .ok (.getfield 181, 3) := by decide +kernel
theorem dX11_isQuarrel_9 : decode cX11_isQuarrel 9 = .ok (.iconst 1, 1) := by decide +kernel
theorem dX11_isQuarrel_10 : decode cX11_isQuarrel 10 = .ok (.isub, 1) := by decide +kernel
theorem dX11_isQuarrel_11 : decode cX11_isQuarrel 11 = .ok (.invokestatic 113, 3) := by decide +kernel
theorem dX11_isQuarrel_14 : decode cX11_isQuarrel 14 = .ok (.ireturn, 1) := by decide +kernel
def vdc_isQuarrel : List Cond := [.code yX11_isQuarrel cX11_isQuarrel 2 (some .boolean), .fieldLink RX11 37 "SaltStreet" "plan" "LSaltStreet$Plan;", .methodLink RX11 113 yX11_within, .code yX11_within cX11_within 3 (some .boolean), .static yX11_within, .initialized RX11]
def vc_isQuarrel : List Cond := vdc_isQuarrel ++ (wsX110 ++ (wsX40 ++ ([] : List Cond)))
theorem ic_isQuarrel_X11 : ∀ w ∈ wsX110, w ∈ vc_isQuarrel := fun _ h => List.mem_append_right _ (List.mem_append_left _ h)
theorem ic_isQuarrel_X4 : ∀ w ∈ wsX40, w ∈ vc_isQuarrel := fun _ h => List.mem_append_right _ (List.mem_append_right _ (List.mem_append_left _ h))
set_option maxRecDepth 20000 in
theorem gc_isQuarrel_113_c_within : GoodIn vc_isQuarrel (va_wsS RX11 113 yX11_within vc_within) := (goodIn_app (goodIn_r _ [2, 4, 5] rfl (by decide +kernel)) (goodIn_app (goodIn_r vdc_within [3] rfl (by decide +kernel)) goodIn_nil))
set_option maxHeartbeats 4000000 in
set_option maxRecDepth 100000 in
theorem c_isQuarrel (l : Launch) (D : va_G) (kc : Nat → ClassId) (sz : Nat) (xa : Nat → Nat) (na : Nat → Nat) (pa : Nat → Nat) (ot : Int32) (mk : Int32) (st : Int32) (tp : Int64) (bt : Int64) (fa : Int32) (fp : Int32) (h : Int32) : Met l yX11_isQuarrel vc_isQuarrel ({ frames := 1, cells := 0, slots := 0, locals := 22 }) (va_Pc [.ref (xa 0), .int h] (wPre D kc [(xa 0, .inr (10, [.ref (xa 1), .ref (xa 2), .ref (na 0), .ref (pa 0), .ref (xa 3), .ref (na 1), .ref (na 2), .ref (xa 4), .ref (xa 5), .ref (xa 6), .ref (xa 7), .ref (xa 8), .ref (xa 9), .int ot, .int mk, .int st, .long tp, .long bt, .int fa, .int fp])), (na 1, .inr (4, [.ref (na 4), .ref (na 5), .ref (na 6), .ref (na 7), .ref (na 8), .ref (na 9), .ref (na 10), .ref (na 11), .ref (na 12), .ref (na 13), .ref (na 14), .ref (na 15), .int 0, .int 0, .int 0, .int 0, .int 0, .int 0, .int 5, .int 0]))] sz)) (va_Qi (fun (r : Int32) (_ : Unit) => r = 0) (wPost D [(xa 0, .inr (10, [.ref (xa 1), .ref (xa 2), .ref (na 0), .ref (pa 0), .ref (xa 3), .ref (na 1), .ref (na 2), .ref (xa 4), .ref (xa 5), .ref (xa 6), .ref (xa 7), .ref (xa 8), .ref (xa 9), .int ot, .int mk, .int st, .long tp, .long bt, .int fa, .int fp])), (na 1, .inr (4, [.ref (na 4), .ref (na 5), .ref (na 6), .ref (na 7), .ref (na 8), .ref (na 9), .ref (na 10), .ref (na 11), .ref (na 12), .ref (na 13), .ref (na 14), .ref (na 15), .int 0, .int 0, .int 0, .int 0, .int 0, .int 0, .int 5, .int 0]))] (va_A [(xa 0, .inr (10, [.ref (xa 1), .ref (xa 2), .ref (na 0), .ref (pa 0), .ref (xa 3), .ref (na 1), .ref (na 2), .ref (xa 4), .ref (xa 5), .ref (xa 6), .ref (xa 7), .ref (xa 8), .ref (xa 9), .int ot, .int mk, .int st, .long tp, .long bt, .int fa, .int fp])), (na 1, .inr (4, [.ref (na 4), .ref (na 5), .ref (na 6), .ref (na 7), .ref (na 8), .ref (na 9), .ref (na 10), .ref (na 11), .ref (na 12), .ref (na 13), .ref (na 14), .ref (na 15), .int 0, .int 0, .int 0, .int 0, .int 0, .int 0, .int 5, .int 0]))] sz)) (va_A [(xa 0, .inr (10, [.ref (xa 1), .ref (xa 2), .ref (na 0), .ref (pa 0), .ref (xa 3), .ref (na 1), .ref (na 2), .ref (xa 4), .ref (xa 5), .ref (xa 6), .ref (xa 7), .ref (xa 8), .ref (xa 9), .int ot, .int mk, .int st, .long tp, .long bt, .int fa, .int fp])), (na 1, .inr (4, [.ref (na 4), .ref (na 5), .ref (na 6), .ref (na 7), .ref (na 8), .ref (na 9), .ref (na 10), .ref (na 11), .ref (na 12), .ref (na 13), .ref (na 14), .ref (na 15), .int 0, .int 0, .int 0, .int 0, .int 0, .int 0, .int 5, .int 0]))] sz)) 0 0 (va_A [(xa 0, .inr (10, [.ref (xa 1), .ref (xa 2), .ref (na 0), .ref (pa 0), .ref (xa 3), .ref (na 1), .ref (na 2), .ref (xa 4), .ref (xa 5), .ref (xa 6), .ref (xa 7), .ref (xa 8), .ref (xa 9), .int ot, .int mk, .int st, .long tp, .long bt, .int fa, .int fp])), (na 1, .inr (4, [.ref (na 4), .ref (na 5), .ref (na 6), .ref (na 7), .ref (na 8), .ref (na 9), .ref (na 10), .ref (na 11), .ref (na 12), .ref (na 13), .ref (na 14), .ref (na 15), .int 0, .int 0, .int 0, .int 0, .int 0, .int 0, .int 5, .int 0]))] sz) := by
  refine Met.ofW (cc := cX11_isQuarrel) (maxL := 2) (ret := (some .boolean)) (by decide) rfl ?_
  intro p e s m args below meth c s₁ B hml hv
  obtain ⟨rfl, hsz, hP, hE, hD0⟩ := hv
  have hx := B.exec
  have hb := B.bytes
  have hr := B.returns
  have hts := atoms_spec (ws := vc_isQuarrel) B.pre
  have hown : s.vm.findClass RX11 = some m.cls := findClass_of_methodNamed B.named
  have hlocks := B.notSynchronized
  subst hsz
  have hD := hD0.self (sz := s.heap.size)
  generalize hAe : va_A [(xa 0, .inr (10, [.ref (xa 1), .ref (xa 2), .ref (na 0), .ref (pa 0), .ref (xa 3), .ref (na 1), .ref (na 2), .ref (xa 4), .ref (xa 5), .ref (xa 6), .ref (xa 7), .ref (xa 8), .ref (xa 9), .int ot, .int mk, .int st, .long tp, .long bt, .int fa, .int fp])), (na 1, .inr (4, [.ref (na 4), .ref (na 5), .ref (na 6), .ref (na 7), .ref (na 8), .ref (na 9), .ref (na 10), .ref (na 11), .ref (na 12), .ref (na 13), .ref (na 14), .ref (na 15), .int 0, .int 0, .int 0, .int 0, .int 0, .int 0, .int 5, .int 0]))] s.heap.size = A at hD ⊢
  have hA : ∀ q : Nat, s.heap.size ≤ q → A q := fun q h => by rw [← hAe]; exact Or.inr h
  have hS : va_S A s.heap s.heap [] := va_S.rf
  have hK := hE.1
  have hP : va_P D vwCl [(xa 0, .inr (10, [.ref (xa 1), .ref (xa 2), .ref (na 0), .ref (pa 0), .ref (xa 3), .ref (na 1), .ref (na 2), .ref (xa 4), .ref (xa 5), .ref (xa 6), .ref (xa 7), .ref (xa 8), .ref (xa 9), .int ot, .int mk, .int st, .long tp, .long bt, .int fa, .int fp])), (na 1, .inr (4, [.ref (na 4), .ref (na 5), .ref (na 6), .ref (na 7), .ref (na 8), .ref (na 9), .ref (na 10), .ref (na 11), .ref (na 12), .ref (na 13), .ref (na 14), .ref (na 15), .int 0, .int 0, .int 0, .int 0, .int 0, .int 0, .int 5, .int 0]))] s.heap := hP
  have hl := lv_entry ([.ref (xa 0), .int h]) (n := 2) (Nat.le_of_ble_eq_true rfl)
  rw [lg_entry_eq]
  generalize (lg_sl ([.ref (xa 0), .int h]) ++ List.replicate (2 - (lg_sl ([.ref (xa 0), .int h])).length) Slot.unset).toArray = ls at hl ⊢
  have hl : lv_has ls 2 [(0, .ref (xa 0)), (1, .int h)] := hl
  refine lv_iload_n hx hb dX11_isQuarrel_0 rfl (lv_at hl 1 rfl) ?_
  refine lv_iconst (v := 0) hx hb dX11_isQuarrel_1 (by decide) ?_
  refine lv_aload_n hx hb dX11_isQuarrel_2 rfl (lv_at hl 0 rfl) ?_
  refine va_get (D := D) (ci := 10) (v := .ref (na 1)) (C := RX11) (T := TX11) (N := 20) hx hb hts ic_isQuarrel_X11 hown hK hP 0 rfl rfl 5 (by decide) (hts (.fieldLink RX11 37 "SaltStreet" "plan" "LSaltStreet$Plan;") (List.mem_of_getElem? (i := 1) rfl)) (fun _ h9 => h9) rfl dX11_isQuarrel_3 ?_
  refine va_getN (D := D) (ci := 4) (v := .int 0) (C := RX4) (T := TX4) (N := 20) hx hb hts ic_isQuarrel_X4 hown hK hP 1 rfl rfl 14 (by decide) (hE.nw 40 rfl) (fun _ h9 => h9) rfl dX11_isQuarrel_6 ?_
  refine lv_iconst (v := 1) hx hb dX11_isQuarrel_9 (by decide) ?_
  refine lv_isub hx hb dX11_isQuarrel_10 ?_
  refine lv_ci (y := (-1)) (by decide) ?_
  have hPc := hP.sub (ws' := []) [] rfl
  have hDc := hD.sub (ws' := []) [] (by decide) rfl
  have hFc := va_free (wc := []) hD hS hA [] rfl
  refine va_calli (va_runS (As := [.int h, .int 0, .int (-1)]) (rest := []) ⟨hx, hb, hml, hown, hts⟩ (c_within l D kc s.heap.size h 0 (-1)) (va_cwS 3 hts gc_isQuarrel_113_c_within rfl rfl rfl (by decide +kernel) ⟨Nat.le_of_ble_eq_true rfl, Nat.le_of_ble_eq_true rfl⟩) (preS_ok hPc hDc hE) rfl rfl hl.1 rfl (lv_room (Nat.le_of_ble_eq_true rfl)) dX11_isQuarrel_11 ⟨Nat.le_of_ble_eq_true rfl, Nat.le_of_ble_eq_true rfl⟩) hS (fun q _ h => hFc q h) hFc (fun r_11 u9 t9 H locs ht hvm hw hB hz1 hk1 hS => ?_)
  obtain ⟨hP1, hD1⟩ := hB
  rw [ht] at hP1
  obtain ⟨hP, hD⟩ := va_join (wr := [(xa 0, .inr (10, [.ref (xa 1), .ref (xa 2), .ref (na 0), .ref (pa 0), .ref (xa 3), .ref (na 1), .ref (na 2), .ref (xa 4), .ref (xa 5), .ref (xa 6), .ref (xa 7), .ref (xa 8), .ref (xa 9), .int ot, .int mk, .int st, .long tp, .long bt, .int fa, .int fp])), (na 1, .inr (4, [.ref (na 4), .ref (na 5), .ref (na 6), .ref (na 7), .ref (na 8), .ref (na 9), .ref (na 10), .ref (na 11), .ref (na 12), .ref (na 13), .ref (na 14), .ref (na 15), .int 0, .int 0, .int 0, .int 0, .int 0, .int 0, .int 5, .int 0]))]) (w1 := []) hP hD [] [0, 1] rfl rfl (by decide) (by decide) hk1 hFc hP1 hD1
  have hP : va_P D vwCl [(xa 0, .inr (10, [.ref (xa 1), .ref (xa 2), .ref (na 0), .ref (pa 0), .ref (xa 3), .ref (na 1), .ref (na 2), .ref (xa 4), .ref (xa 5), .ref (xa 6), .ref (xa 7), .ref (xa 8), .ref (xa 9), .int ot, .int mk, .int st, .long tp, .long bt, .int fa, .int fp])), (na 1, .inr (4, [.ref (na 4), .ref (na 5), .ref (na 6), .ref (na 7), .ref (na 8), .ref (na 9), .ref (na 10), .ref (na 11), .ref (na 12), .ref (na 13), .ref (na 14), .ref (na 15), .int 0, .int 0, .int 0, .int 0, .int 0, .int 0, .int 5, .int 0]))] H := hP
  have hD : va_D A [(xa 0, .inr (10, [.ref (xa 1), .ref (xa 2), .ref (na 0), .ref (pa 0), .ref (xa 3), .ref (na 1), .ref (na 2), .ref (xa 4), .ref (xa 5), .ref (xa 6), .ref (xa 7), .ref (xa 8), .ref (xa 9), .int ot, .int mk, .int st, .long tp, .long bt, .int fa, .int fp])), (na 1, .inr (4, [.ref (na 4), .ref (na 5), .ref (na 6), .ref (na 7), .ref (na 8), .ref (na 9), .ref (na 10), .ref (na 11), .ref (na 12), .ref (na 13), .ref (na 14), .ref (na 15), .int 0, .int 0, .int 0, .int 0, .int 0, .int 0, .int 5, .int 0]))] := hD
  subst hw
  refine lv_ci (y := 0) (bW_none _) ?_
  have hP9 := hP.sub (ws' := [(xa 0, .inr (10, [.ref (xa 1), .ref (xa 2), .ref (na 0), .ref (pa 0), .ref (xa 3), .ref (na 1), .ref (na 2), .ref (xa 4), .ref (xa 5), .ref (xa 6), .ref (xa 7), .ref (xa 8), .ref (xa 9), .int ot, .int mk, .int st, .long tp, .long bt, .int fa, .int fp])), (na 1, .inr (4, [.ref (na 4), .ref (na 5), .ref (na 6), .ref (na 7), .ref (na 8), .ref (na 9), .ref (na 10), .ref (na 11), .ref (na 12), .ref (na 13), .ref (na 14), .ref (na 15), .int 0, .int 0, .int 0, .int 0, .int 0, .int 0, .int 5, .int 0]))]) [0, 1] rfl
  have hD9 := hD.sub (ws' := [(xa 0, .inr (10, [.ref (xa 1), .ref (xa 2), .ref (na 0), .ref (pa 0), .ref (xa 3), .ref (na 1), .ref (na 2), .ref (xa 4), .ref (xa 5), .ref (xa 6), .ref (xa 7), .ref (xa 8), .ref (xa 9), .int ot, .int mk, .int st, .long tp, .long bt, .int fa, .int fp])), (na 1, .inr (4, [.ref (na 4), .ref (na 5), .ref (na 6), .ref (na 7), .ref (na 8), .ref (na 9), .ref (na 10), .ref (na 11), .ref (na 12), .ref (na 13), .ref (na 14), .ref (na 15), .int 0, .int 0, .int 0, .int 0, .int 0, .int 0, .int 5, .int 0]))]) [0, 1] (by decide) rfl
  exact W.zret (v := 0) hx hb hr rfl (fun t9 ht hW => ⟨⟨0, (), rfl, rfl, ⟨by rw [ht]; exact hP9, hD9⟩⟩, hS.F ht⟩) hS.2.2 dX11_isQuarrel_14
theorem dX11_isGrocer_0 : decode cX11_isGrocer 0 = .ok (.iload_n 1, 1) := by decide +kernel
theorem dX11_isGrocer_1 : decode cX11_isGrocer 1 = .ok (.iconst 0, 1) := by decide +kernel
theorem dX11_isGrocer_2 : decode cX11_isGrocer 2 = .ok (.aload_n 0, 1) := by decide +kernel
theorem dX11_isGrocer_3 : decode cX11_isGrocer 3 = .ok (.getfield 37, 3) := by decide +kernel
theorem dX11_isGrocer_6 : decode cX11_isGrocer 6 = .ok (.getfield 204, 3) := by decide +kernel
theorem dX11_isGrocer_9 : decode cX11_isGrocer 9 = .ok (.iconst 1, 1) := by decide +kernel
theorem dX11_isGrocer_10 : decode cX11_isGrocer 10 = .ok (.isub, 1) := by decide +kernel
theorem dX11_isGrocer_11 : decode cX11_isGrocer 11 = .ok (.invokestatic 113, 3) := by decide +kernel
theorem dX11_isGrocer_14 : decode cX11_isGrocer 14 = .ok (.ireturn, 1) := by decide +kernel
def vdc_isGrocer : List Cond := [.code yX11_isGrocer cX11_isGrocer 2 (some .boolean), .fieldLink RX11 37 "SaltStreet" "plan" "LSaltStreet$Plan;", .methodLink RX11 113 yX11_within, .code yX11_within cX11_within 3 (some .boolean), .static yX11_within, .initialized RX11]
def vc_isGrocer : List Cond := vdc_isGrocer ++ (wsX110 ++ (wsX40 ++ ([] : List Cond)))
theorem ic_isGrocer_X11 : ∀ w ∈ wsX110, w ∈ vc_isGrocer := fun _ h => List.mem_append_right _ (List.mem_append_left _ h)
theorem ic_isGrocer_X4 : ∀ w ∈ wsX40, w ∈ vc_isGrocer := fun _ h => List.mem_append_right _ (List.mem_append_right _ (List.mem_append_left _ h))
set_option maxRecDepth 20000 in
theorem gc_isGrocer_113_c_within : GoodIn vc_isGrocer (va_wsS RX11 113 yX11_within vc_within) := (goodIn_app (goodIn_r _ [2, 4, 5] rfl (by decide +kernel)) (goodIn_app (goodIn_r vdc_within [3] rfl (by decide +kernel)) goodIn_nil))
set_option maxHeartbeats 4000000 in
set_option maxRecDepth 100000 in
theorem c_isGrocer (l : Launch) (D : va_G) (kc : Nat → ClassId) (sz : Nat) (xa : Nat → Nat) (na : Nat → Nat) (pa : Nat → Nat) (ot : Int32) (mk : Int32) (st : Int32) (tp : Int64) (bt : Int64) (fa : Int32) (fp : Int32) (h : Int32) : Met l yX11_isGrocer vc_isGrocer ({ frames := 1, cells := 0, slots := 0, locals := 22 }) (va_Pc [.ref (xa 0), .int h] (wPre D kc [(xa 0, .inr (10, [.ref (xa 1), .ref (xa 2), .ref (na 0), .ref (pa 0), .ref (xa 3), .ref (na 1), .ref (na 2), .ref (xa 4), .ref (xa 5), .ref (xa 6), .ref (xa 7), .ref (xa 8), .ref (xa 9), .int ot, .int mk, .int st, .long tp, .long bt, .int fa, .int fp])), (na 1, .inr (4, [.ref (na 4), .ref (na 5), .ref (na 6), .ref (na 7), .ref (na 8), .ref (na 9), .ref (na 10), .ref (na 11), .ref (na 12), .ref (na 13), .ref (na 14), .ref (na 15), .int 0, .int 0, .int 0, .int 0, .int 0, .int 0, .int 5, .int 0]))] sz)) (va_Qi (fun (r : Int32) (_ : Unit) => r = 0) (wPost D [(xa 0, .inr (10, [.ref (xa 1), .ref (xa 2), .ref (na 0), .ref (pa 0), .ref (xa 3), .ref (na 1), .ref (na 2), .ref (xa 4), .ref (xa 5), .ref (xa 6), .ref (xa 7), .ref (xa 8), .ref (xa 9), .int ot, .int mk, .int st, .long tp, .long bt, .int fa, .int fp])), (na 1, .inr (4, [.ref (na 4), .ref (na 5), .ref (na 6), .ref (na 7), .ref (na 8), .ref (na 9), .ref (na 10), .ref (na 11), .ref (na 12), .ref (na 13), .ref (na 14), .ref (na 15), .int 0, .int 0, .int 0, .int 0, .int 0, .int 0, .int 5, .int 0]))] (va_A [(xa 0, .inr (10, [.ref (xa 1), .ref (xa 2), .ref (na 0), .ref (pa 0), .ref (xa 3), .ref (na 1), .ref (na 2), .ref (xa 4), .ref (xa 5), .ref (xa 6), .ref (xa 7), .ref (xa 8), .ref (xa 9), .int ot, .int mk, .int st, .long tp, .long bt, .int fa, .int fp])), (na 1, .inr (4, [.ref (na 4), .ref (na 5), .ref (na 6), .ref (na 7), .ref (na 8), .ref (na 9), .ref (na 10), .ref (na 11), .ref (na 12), .ref (na 13), .ref (na 14), .ref (na 15), .int 0, .int 0, .int 0, .int 0, .int 0, .int 0, .int 5, .int 0]))] sz)) (va_A [(xa 0, .inr (10, [.ref (xa 1), .ref (xa 2), .ref (na 0), .ref (pa 0), .ref (xa 3), .ref (na 1), .ref (na 2), .ref (xa 4), .ref (xa 5), .ref (xa 6), .ref (xa 7), .ref (xa 8), .ref (xa 9), .int ot, .int mk, .int st, .long tp, .long bt, .int fa, .int fp])), (na 1, .inr (4, [.ref (na 4), .ref (na 5), .ref (na 6), .ref (na 7), .ref (na 8), .ref (na 9), .ref (na 10), .ref (na 11), .ref (na 12), .ref (na 13), .ref (na 14), .ref (na 15), .int 0, .int 0, .int 0, .int 0, .int 0, .int 0, .int 5, .int 0]))] sz)) 0 0 (va_A [(xa 0, .inr (10, [.ref (xa 1), .ref (xa 2), .ref (na 0), .ref (pa 0), .ref (xa 3), .ref (na 1), .ref (na 2), .ref (xa 4), .ref (xa 5), .ref (xa 6), .ref (xa 7), .ref (xa 8), .ref (xa 9), .int ot, .int mk, .int st, .long tp, .long bt, .int fa, .int fp])), (na 1, .inr (4, [.ref (na 4), .ref (na 5), .ref (na 6), .ref (na 7), .ref (na 8), .ref (na 9), .ref (na 10), .ref (na 11), .ref (na 12), .ref (na 13), .ref (na 14), .ref (na 15), .int 0, .int 0, .int 0, .int 0, .int 0, .int 0, .int 5, .int 0]))] sz) := by
  refine Met.ofW (cc := cX11_isGrocer) (maxL := 2) (ret := (some .boolean)) (by decide) rfl ?_
  intro p e s m args below meth c s₁ B hml hv
  obtain ⟨rfl, hsz, hP, hE, hD0⟩ := hv
  have hx := B.exec
  have hb := B.bytes
  have hr := B.returns
  have hts := atoms_spec (ws := vc_isGrocer) B.pre
  have hown : s.vm.findClass RX11 = some m.cls := findClass_of_methodNamed B.named
  have hlocks := B.notSynchronized
  subst hsz
  have hD := hD0.self (sz := s.heap.size)
  generalize hAe : va_A [(xa 0, .inr (10, [.ref (xa 1), .ref (xa 2), .ref (na 0), .ref (pa 0), .ref (xa 3), .ref (na 1), .ref (na 2), .ref (xa 4), .ref (xa 5), .ref (xa 6), .ref (xa 7), .ref (xa 8), .ref (xa 9), .int ot, .int mk, .int st, .long tp, .long bt, .int fa, .int fp])), (na 1, .inr (4, [.ref (na 4), .ref (na 5), .ref (na 6), .ref (na 7), .ref (na 8), .ref (na 9), .ref (na 10), .ref (na 11), .ref (na 12), .ref (na 13), .ref (na 14), .ref (na 15), .int 0, .int 0, .int 0, .int 0, .int 0, .int 0, .int 5, .int 0]))] s.heap.size = A at hD ⊢
  have hA : ∀ q : Nat, s.heap.size ≤ q → A q := fun q h => by rw [← hAe]; exact Or.inr h
  have hS : va_S A s.heap s.heap [] := va_S.rf
  have hK := hE.1
  have hP : va_P D vwCl [(xa 0, .inr (10, [.ref (xa 1), .ref (xa 2), .ref (na 0), .ref (pa 0), .ref (xa 3), .ref (na 1), .ref (na 2), .ref (xa 4), .ref (xa 5), .ref (xa 6), .ref (xa 7), .ref (xa 8), .ref (xa 9), .int ot, .int mk, .int st, .long tp, .long bt, .int fa, .int fp])), (na 1, .inr (4, [.ref (na 4), .ref (na 5), .ref (na 6), .ref (na 7), .ref (na 8), .ref (na 9), .ref (na 10), .ref (na 11), .ref (na 12), .ref (na 13), .ref (na 14), .ref (na 15), .int 0, .int 0, .int 0, .int 0, .int 0, .int 0, .int 5, .int 0]))] s.heap := hP
  have hl := lv_entry ([.ref (xa 0), .int h]) (n := 2) (Nat.le_of_ble_eq_true rfl)
  rw [lg_entry_eq]
  generalize (lg_sl ([.ref (xa 0), .int h]) ++ List.replicate (2 - (lg_sl ([.ref (xa 0), .int h])).length) Slot.unset).toArray = ls at hl ⊢
  have hl : lv_has ls 2 [(0, .ref (xa 0)), (1, .int h)] := hl
  refine lv_iload_n hx hb dX11_isGrocer_0 rfl (lv_at hl 1 rfl) ?_
  refine lv_iconst (v := 0) hx hb dX11_isGrocer_1 (by decide) ?_
  refine lv_aload_n hx hb dX11_isGrocer_2 rfl (lv_at hl 0 rfl) ?_
  refine va_get (D := D) (ci := 10) (v := .ref (na 1)) (C := RX11) (T := TX11) (N := 20) hx hb hts ic_isGrocer_X11 hown hK hP 0 rfl rfl 5 (by decide) (hts (.fieldLink RX11 37 "SaltStreet" "plan" "LSaltStreet$Plan;") (List.mem_of_getElem? (i := 1) rfl)) (fun _ h9 => h9) rfl dX11_isGrocer_3 ?_
  refine va_getN (D := D) (ci := 4) (v := .int 0) (C := RX4) (T := TX4) (N := 20) hx hb hts ic_isGrocer_X4 hown hK hP 1 rfl rfl 16 (by decide) (hE.nw 47 rfl) (fun _ h9 => h9) rfl dX11_isGrocer_6 ?_
  refine lv_iconst (v := 1) hx hb dX11_isGrocer_9 (by decide) ?_
  refine lv_isub hx hb dX11_isGrocer_10 ?_
  refine lv_ci (y := (-1)) (by decide) ?_
  have hPc := hP.sub (ws' := []) [] rfl
  have hDc := hD.sub (ws' := []) [] (by decide) rfl
  have hFc := va_free (wc := []) hD hS hA [] rfl
  refine va_calli (va_runS (As := [.int h, .int 0, .int (-1)]) (rest := []) ⟨hx, hb, hml, hown, hts⟩ (c_within l D kc s.heap.size h 0 (-1)) (va_cwS 3 hts gc_isGrocer_113_c_within rfl rfl rfl (by decide +kernel) ⟨Nat.le_of_ble_eq_true rfl, Nat.le_of_ble_eq_true rfl⟩) (preS_ok hPc hDc hE) rfl rfl hl.1 rfl (lv_room (Nat.le_of_ble_eq_true rfl)) dX11_isGrocer_11 ⟨Nat.le_of_ble_eq_true rfl, Nat.le_of_ble_eq_true rfl⟩) hS (fun q _ h => hFc q h) hFc (fun r_11 u9 t9 H locs ht hvm hw hB hz1 hk1 hS => ?_)
  obtain ⟨hP1, hD1⟩ := hB
  rw [ht] at hP1
  obtain ⟨hP, hD⟩ := va_join (wr := [(xa 0, .inr (10, [.ref (xa 1), .ref (xa 2), .ref (na 0), .ref (pa 0), .ref (xa 3), .ref (na 1), .ref (na 2), .ref (xa 4), .ref (xa 5), .ref (xa 6), .ref (xa 7), .ref (xa 8), .ref (xa 9), .int ot, .int mk, .int st, .long tp, .long bt, .int fa, .int fp])), (na 1, .inr (4, [.ref (na 4), .ref (na 5), .ref (na 6), .ref (na 7), .ref (na 8), .ref (na 9), .ref (na 10), .ref (na 11), .ref (na 12), .ref (na 13), .ref (na 14), .ref (na 15), .int 0, .int 0, .int 0, .int 0, .int 0, .int 0, .int 5, .int 0]))]) (w1 := []) hP hD [] [0, 1] rfl rfl (by decide) (by decide) hk1 hFc hP1 hD1
  have hP : va_P D vwCl [(xa 0, .inr (10, [.ref (xa 1), .ref (xa 2), .ref (na 0), .ref (pa 0), .ref (xa 3), .ref (na 1), .ref (na 2), .ref (xa 4), .ref (xa 5), .ref (xa 6), .ref (xa 7), .ref (xa 8), .ref (xa 9), .int ot, .int mk, .int st, .long tp, .long bt, .int fa, .int fp])), (na 1, .inr (4, [.ref (na 4), .ref (na 5), .ref (na 6), .ref (na 7), .ref (na 8), .ref (na 9), .ref (na 10), .ref (na 11), .ref (na 12), .ref (na 13), .ref (na 14), .ref (na 15), .int 0, .int 0, .int 0, .int 0, .int 0, .int 0, .int 5, .int 0]))] H := hP
  have hD : va_D A [(xa 0, .inr (10, [.ref (xa 1), .ref (xa 2), .ref (na 0), .ref (pa 0), .ref (xa 3), .ref (na 1), .ref (na 2), .ref (xa 4), .ref (xa 5), .ref (xa 6), .ref (xa 7), .ref (xa 8), .ref (xa 9), .int ot, .int mk, .int st, .long tp, .long bt, .int fa, .int fp])), (na 1, .inr (4, [.ref (na 4), .ref (na 5), .ref (na 6), .ref (na 7), .ref (na 8), .ref (na 9), .ref (na 10), .ref (na 11), .ref (na 12), .ref (na 13), .ref (na 14), .ref (na 15), .int 0, .int 0, .int 0, .int 0, .int 0, .int 0, .int 5, .int 0]))] := hD
  subst hw
  refine lv_ci (y := 0) (bW_none _) ?_
  have hP9 := hP.sub (ws' := [(xa 0, .inr (10, [.ref (xa 1), .ref (xa 2), .ref (na 0), .ref (pa 0), .ref (xa 3), .ref (na 1), .ref (na 2), .ref (xa 4), .ref (xa 5), .ref (xa 6), .ref (xa 7), .ref (xa 8), .ref (xa 9), .int ot, .int mk, .int st, .long tp, .long bt, .int fa, .int fp])), (na 1, .inr (4, [.ref (na 4), .ref (na 5), .ref (na 6), .ref (na 7), .ref (na 8), .ref (na 9), .ref (na 10), .ref (na 11), .ref (na 12), .ref (na 13), .ref (na 14), .ref (na 15), .int 0, .int 0, .int 0, .int 0, .int 0, .int 0, .int 5, .int 0]))]) [0, 1] rfl
  have hD9 := hD.sub (ws' := [(xa 0, .inr (10, [.ref (xa 1), .ref (xa 2), .ref (na 0), .ref (pa 0), .ref (xa 3), .ref (na 1), .ref (na 2), .ref (xa 4), .ref (xa 5), .ref (xa 6), .ref (xa 7), .ref (xa 8), .ref (xa 9), .int ot, .int mk, .int st, .long tp, .long bt, .int fa, .int fp])), (na 1, .inr (4, [.ref (na 4), .ref (na 5), .ref (na 6), .ref (na 7), .ref (na 8), .ref (na 9), .ref (na 10), .ref (na 11), .ref (na 12), .ref (na 13), .ref (na 14), .ref (na 15), .int 0, .int 0, .int 0, .int 0, .int 0, .int 0, .int 5, .int 0]))]) [0, 1] (by decide) rfl
  exact W.zret (v := 0) hx hb hr rfl (fun t9 ht hW => ⟨⟨0, (), rfl, rfl, ⟨by rw [ht]; exact hP9, hD9⟩⟩, hS.F ht⟩) hS.2.2 dX11_isGrocer_14
theorem dX11_whyNoStep_0 : decode cX11_whyNoStep 0 = .ok (.aload_n 0, 1) := by decide +kernel
theorem dX11_whyNoStep_1 : decode cX11_whyNoStep 1 = .ok (.iload_n 1, 1) := by decide +kernel
theorem dX11_whyNoStep_2 : decode cX11_whyNoStep 2 = .ok (.invokevirtual 312, 3) := by decide +kernel
theorem dX11_whyNoStep_5 : decode cX11_whyNoStep 5 = .ok (.ifCond .eq 7, 3) := by decide +kernel
theorem dX11_whyNoStep_12 : decode cX11_whyNoStep 12 = .ok (.iconst 1, 1) := by decide +kernel
theorem dX11_whyNoStep_13 : decode cX11_whyNoStep 13 = .ok (.ireturn, 1) := by decide +kernel
def vdc_whyNoStep : List Cond := [.code yX11_whyNoStep cX11_whyNoStep 3 (some .int), .methodLink RX11 312 yX11_isHouse, .code yX11_isHouse cX11_isHouse 2 (some .boolean), .fieldLink RX11 37 "SaltStreet" "plan" "LSaltStreet$Plan;", .methodLink RX11 113 yX11_within, .code yX11_within cX11_within 3 (some .boolean), .static yX11_within, .initialized RX11, .instanceMethod yX11_isHouse, .selects RX11 yX11_isHouse yX11_isHouse]
def vc_whyNoStep : List Cond := vdc_whyNoStep ++ (wsX110 ++ (wsX40 ++ ([] : List Cond)))
theorem ic_whyNoStep_X11 : ∀ w ∈ wsX110, w ∈ vc_whyNoStep := fun _ h => List.mem_append_right _ (List.mem_append_left _ h)
theorem ic_whyNoStep_X4 : ∀ w ∈ wsX40, w ∈ vc_whyNoStep := fun _ h => List.mem_append_right _ (List.mem_append_right _ (List.mem_append_left _ h))
set_option maxRecDepth 20000 in
theorem gc_whyNoStep_312_c_isHouse : GoodIn vc_whyNoStep (wsV RX11 312 RX11 yX11_isHouse vc_isHouse) := (goodIn_app (goodIn_r _ [1, 8, 9, 7] rfl (by decide +kernel)) (goodIn_app (goodIn_r vdc_isHouse [2, 3, 4, 5, 6, 7] rfl (by decide +kernel)) (goodIn_app (goodIn_sub ic_whyNoStep_X11 gdX11) (goodIn_app (goodIn_sub ic_whyNoStep_X4 gdX4) goodIn_nil))))
set_option maxHeartbeats 4000000 in
set_option maxRecDepth 100000 in
theorem c_whyNoStep (l : Launch) (D : va_G) (kc : Nat → ClassId) (sz : Nat) (xa : Nat → Nat) (na : Nat → Nat) (pa : Nat → Nat) (ot : Int32) (mk : Int32) (st : Int32) (tp : Int64) (bt : Int64) (fa : Int32) (fp : Int32) (h : Int32) (f : Int32) : Met l yX11_whyNoStep vc_whyNoStep ({ frames := 2, cells := 0, slots := 0, locals := 43 }) (va_Pc [.ref (xa 0), .int h, .int f] (wPre D kc [(xa 0, .inr (10, [.ref (xa 1), .ref (xa 2), .ref (na 0), .ref (pa 0), .ref (xa 3), .ref (na 1), .ref (na 2), .ref (xa 4), .ref (xa 5), .ref (xa 6), .ref (xa 7), .ref (xa 8), .ref (xa 9), .int ot, .int mk, .int st, .long tp, .long bt, .int fa, .int fp])), (na 1, .inr (4, [.ref (na 4), .ref (na 5), .ref (na 6), .ref (na 7), .ref (na 8), .ref (na 9), .ref (na 10), .ref (na 11), .ref (na 12), .ref (na 13), .ref (na 14), .ref (na 15), .int 0, .int 0, .int 0, .int 0, .int 0, .int 0, .int 5, .int 0]))] sz)) (va_Qi (fun (r : Int32) (_ : Unit) => r = 1) (wPost D [(xa 0, .inr (10, [.ref (xa 1), .ref (xa 2), .ref (na 0), .ref (pa 0), .ref (xa 3), .ref (na 1), .ref (na 2), .ref (xa 4), .ref (xa 5), .ref (xa 6), .ref (xa 7), .ref (xa 8), .ref (xa 9), .int ot, .int mk, .int st, .long tp, .long bt, .int fa, .int fp])), (na 1, .inr (4, [.ref (na 4), .ref (na 5), .ref (na 6), .ref (na 7), .ref (na 8), .ref (na 9), .ref (na 10), .ref (na 11), .ref (na 12), .ref (na 13), .ref (na 14), .ref (na 15), .int 0, .int 0, .int 0, .int 0, .int 0, .int 0, .int 5, .int 0]))] (va_A [(xa 0, .inr (10, [.ref (xa 1), .ref (xa 2), .ref (na 0), .ref (pa 0), .ref (xa 3), .ref (na 1), .ref (na 2), .ref (xa 4), .ref (xa 5), .ref (xa 6), .ref (xa 7), .ref (xa 8), .ref (xa 9), .int ot, .int mk, .int st, .long tp, .long bt, .int fa, .int fp])), (na 1, .inr (4, [.ref (na 4), .ref (na 5), .ref (na 6), .ref (na 7), .ref (na 8), .ref (na 9), .ref (na 10), .ref (na 11), .ref (na 12), .ref (na 13), .ref (na 14), .ref (na 15), .int 0, .int 0, .int 0, .int 0, .int 0, .int 0, .int 5, .int 0]))] sz)) (va_A [(xa 0, .inr (10, [.ref (xa 1), .ref (xa 2), .ref (na 0), .ref (pa 0), .ref (xa 3), .ref (na 1), .ref (na 2), .ref (xa 4), .ref (xa 5), .ref (xa 6), .ref (xa 7), .ref (xa 8), .ref (xa 9), .int ot, .int mk, .int st, .long tp, .long bt, .int fa, .int fp])), (na 1, .inr (4, [.ref (na 4), .ref (na 5), .ref (na 6), .ref (na 7), .ref (na 8), .ref (na 9), .ref (na 10), .ref (na 11), .ref (na 12), .ref (na 13), .ref (na 14), .ref (na 15), .int 0, .int 0, .int 0, .int 0, .int 0, .int 0, .int 5, .int 0]))] sz)) 0 0 (va_A [(xa 0, .inr (10, [.ref (xa 1), .ref (xa 2), .ref (na 0), .ref (pa 0), .ref (xa 3), .ref (na 1), .ref (na 2), .ref (xa 4), .ref (xa 5), .ref (xa 6), .ref (xa 7), .ref (xa 8), .ref (xa 9), .int ot, .int mk, .int st, .long tp, .long bt, .int fa, .int fp])), (na 1, .inr (4, [.ref (na 4), .ref (na 5), .ref (na 6), .ref (na 7), .ref (na 8), .ref (na 9), .ref (na 10), .ref (na 11), .ref (na 12), .ref (na 13), .ref (na 14), .ref (na 15), .int 0, .int 0, .int 0, .int 0, .int 0, .int 0, .int 5, .int 0]))] sz) := by
  refine Met.ofW (cc := cX11_whyNoStep) (maxL := 3) (ret := (some .int)) (by decide) rfl ?_
  intro p e s m args below meth c s₁ B hml hv
  obtain ⟨rfl, hsz, hP, hE, hD0⟩ := hv
  have hx := B.exec
  have hb := B.bytes
  have hr := B.returns
  have hts := atoms_spec (ws := vc_whyNoStep) B.pre
  have hown : s.vm.findClass RX11 = some m.cls := findClass_of_methodNamed B.named
  have hlocks := B.notSynchronized
  subst hsz
  have hD := hD0.self (sz := s.heap.size)
  generalize hAe : va_A [(xa 0, .inr (10, [.ref (xa 1), .ref (xa 2), .ref (na 0), .ref (pa 0), .ref (xa 3), .ref (na 1), .ref (na 2), .ref (xa 4), .ref (xa 5), .ref (xa 6), .ref (xa 7), .ref (xa 8), .ref (xa 9), .int ot, .int mk, .int st, .long tp, .long bt, .int fa, .int fp])), (na 1, .inr (4, [.ref (na 4), .ref (na 5), .ref (na 6), .ref (na 7), .ref (na 8), .ref (na 9), .ref (na 10), .ref (na 11), .ref (na 12), .ref (na 13), .ref (na 14), .ref (na 15), .int 0, .int 0, .int 0, .int 0, .int 0, .int 0, .int 5, .int 0]))] s.heap.size = A at hD ⊢
  have hA : ∀ q : Nat, s.heap.size ≤ q → A q := fun q h => by rw [← hAe]; exact Or.inr h
  have hS : va_S A s.heap s.heap [] := va_S.rf
  have hK := hE.1
  have hP : va_P D vwCl [(xa 0, .inr (10, [.ref (xa 1), .ref (xa 2), .ref (na 0), .ref (pa 0), .ref (xa 3), .ref (na 1), .ref (na 2), .ref (xa 4), .ref (xa 5), .ref (xa 6), .ref (xa 7), .ref (xa 8), .ref (xa 9), .int ot, .int mk, .int st, .long tp, .long bt, .int fa, .int fp])), (na 1, .inr (4, [.ref (na 4), .ref (na 5), .ref (na 6), .ref (na 7), .ref (na 8), .ref (na 9), .ref (na 10), .ref (na 11), .ref (na 12), .ref (na 13), .ref (na 14), .ref (na 15), .int 0, .int 0, .int 0, .int 0, .int 0, .int 0, .int 5, .int 0]))] s.heap := hP
  have hl := lv_entry ([.ref (xa 0), .int h, .int f]) (n := 3) (Nat.le_of_ble_eq_true rfl)
  rw [lg_entry_eq]
  generalize (lg_sl ([.ref (xa 0), .int h, .int f]) ++ List.replicate (3 - (lg_sl ([.ref (xa 0), .int h, .int f])).length) Slot.unset).toArray = ls at hl ⊢
  have hl : lv_has ls 3 [(0, .ref (xa 0)), (1, .int h), (2, .int f)] := hl
  refine lv_aload_n hx hb dX11_whyNoStep_0 rfl (lv_at hl 0 rfl) ?_
  refine lv_iload_n hx hb dX11_whyNoStep_1 rfl (lv_at hl 1 rfl) ?_
  have hPc := hP.sub (ws' := [(xa 0, .inr (10, [.ref (xa 1), .ref (xa 2), .ref (na 0), .ref (pa 0), .ref (xa 3), .ref (na 1), .ref (na 2), .ref (xa 4), .ref (xa 5), .ref (xa 6), .ref (xa 7), .ref (xa 8), .ref (xa 9), .int ot, .int mk, .int st, .long tp, .long bt, .int fa, .int fp])), (na 1, .inr (4, [.ref (na 4), .ref (na 5), .ref (na 6), .ref (na 7), .ref (na 8), .ref (na 9), .ref (na 10), .ref (na 11), .ref (na 12), .ref (na 13), .ref (na 14), .ref (na 15), .int 0, .int 0, .int 0, .int 0, .int 0, .int 0, .int 5, .int 0]))]) [0, 1] rfl
  have hDc := hD.sub (ws' := [(xa 0, .inr (10, [.ref (xa 1), .ref (xa 2), .ref (na 0), .ref (pa 0), .ref (xa 3), .ref (na 1), .ref (na 2), .ref (xa 4), .ref (xa 5), .ref (xa 6), .ref (xa 7), .ref (xa 8), .ref (xa 9), .int ot, .int mk, .int st, .long tp, .long bt, .int fa, .int fp])), (na 1, .inr (4, [.ref (na 4), .ref (na 5), .ref (na 6), .ref (na 7), .ref (na 8), .ref (na 9), .ref (na 10), .ref (na 11), .ref (na 12), .ref (na 13), .ref (na 14), .ref (na 15), .int 0, .int 0, .int 0, .int 0, .int 0, .int 0, .int 5, .int 0]))]) [0, 1] (by decide) rfl
  have hFc := va_free (wc := [(xa 0, .inr (10, [.ref (xa 1), .ref (xa 2), .ref (na 0), .ref (pa 0), .ref (xa 3), .ref (na 1), .ref (na 2), .ref (xa 4), .ref (xa 5), .ref (xa 6), .ref (xa 7), .ref (xa 8), .ref (xa 9), .int ot, .int mk, .int st, .long tp, .long bt, .int fa, .int fp])), (na 1, .inr (4, [.ref (na 4), .ref (na 5), .ref (na 6), .ref (na 7), .ref (na 8), .ref (na 9), .ref (na 10), .ref (na 11), .ref (na 12), .ref (na 13), .ref (na 14), .ref (na 15), .int 0, .int 0, .int 0, .int 0, .int 0, .int 0, .int 5, .int 0]))]) hD hS hA [0, 1] rfl
  refine va_calli (va_runV (As := [.int h]) (rest := []) ⟨hx, hb, hml, hown, hts⟩ (c_isHouse l D kc s.heap.size xa na pa ot mk st tp bt fa fp h) (cwV 1 hts gc_whyNoStep_312_c_isHouse rfl rfl rfl (by decide +kernel) ⟨Nat.le_of_ble_eq_true rfl, Nat.le_of_ble_eq_true rfl⟩) (preV_ok hPc hDc hE (ci := 10) (q0 := 0) rfl rfl) rfl rfl hl.1 rfl (lv_room (Nat.le_of_ble_eq_true rfl)) dX11_whyNoStep_2 ⟨Nat.le_of_ble_eq_true rfl, Nat.le_of_ble_eq_true rfl⟩) hS (fun q _ h => hFc q h) hFc (fun r_2 u9 t9 H locs ht hvm hw hB hz1 hk1 hS => ?_)
  obtain ⟨hP1, hD1⟩ := hB
  rw [ht] at hP1
  obtain ⟨hP, hD⟩ := va_join (wr := []) (w1 := [(xa 0, .inr (10, [.ref (xa 1), .ref (xa 2), .ref (na 0), .ref (pa 0), .ref (xa 3), .ref (na 1), .ref (na 2), .ref (xa 4), .ref (xa 5), .ref (xa 6), .ref (xa 7), .ref (xa 8), .ref (xa 9), .int ot, .int mk, .int st, .long tp, .long bt, .int fa, .int fp])), (na 1, .inr (4, [.ref (na 4), .ref (na 5), .ref (na 6), .ref (na 7), .ref (na 8), .ref (na 9), .ref (na 10), .ref (na 11), .ref (na 12), .ref (na 13), .ref (na 14), .ref (na 15), .int 0, .int 0, .int 0, .int 0, .int 0, .int 0, .int 5, .int 0]))]) hP hD [0, 1] [] rfl rfl (by decide) (by decide) hk1 hFc hP1 hD1
  have hP : va_P D vwCl [(xa 0, .inr (10, [.ref (xa 1), .ref (xa 2), .ref (na 0), .ref (pa 0), .ref (xa 3), .ref (na 1), .ref (na 2), .ref (xa 4), .ref (xa 5), .ref (xa 6), .ref (xa 7), .ref (xa 8), .ref (xa 9), .int ot, .int mk, .int st, .long tp, .long bt, .int fa, .int fp])), (na 1, .inr (4, [.ref (na 4), .ref (na 5), .ref (na 6), .ref (na 7), .ref (na 8), .ref (na 9), .ref (na 10), .ref (na 11), .ref (na 12), .ref (na 13), .ref (na 14), .ref (na 15), .int 0, .int 0, .int 0, .int 0, .int 0, .int 0, .int 5, .int 0]))] H := hP
  have hD : va_D A [(xa 0, .inr (10, [.ref (xa 1), .ref (xa 2), .ref (na 0), .ref (pa 0), .ref (xa 3), .ref (na 1), .ref (na 2), .ref (xa 4), .ref (xa 5), .ref (xa 6), .ref (xa 7), .ref (xa 8), .ref (xa 9), .int ot, .int mk, .int st, .long tp, .long bt, .int fa, .int fp])), (na 1, .inr (4, [.ref (na 4), .ref (na 5), .ref (na 6), .ref (na 7), .ref (na 8), .ref (na 9), .ref (na 10), .ref (na 11), .ref (na 12), .ref (na 13), .ref (na 14), .ref (na 15), .int 0, .int 0, .int 0, .int 0, .int 0, .int 0, .int 5, .int 0]))] := hD
  subst hw
  refine lv_if_eq (tgt := 12) hx hb dX11_whyNoStep_5 (by decide) (fun _ => ?_) (fun h => absurd (by decide) h)
  refine lv_iconst (v := 1) hx hb dX11_whyNoStep_12 (by decide) ?_
  have hP9 := hP.sub (ws' := [(xa 0, .inr (10, [.ref (xa 1), .ref (xa 2), .ref (na 0), .ref (pa 0), .ref (xa 3), .ref (na 1), .ref (na 2), .ref (xa 4), .ref (xa 5), .ref (xa 6), .ref (xa 7), .ref (xa 8), .ref (xa 9), .int ot, .int mk, .int st, .long tp, .long bt, .int fa, .int fp])), (na 1, .inr (4, [.ref (na 4), .ref (na 5), .ref (na 6), .ref (na 7), .ref (na 8), .ref (na 9), .ref (na 10), .ref (na 11), .ref (na 12), .ref (na 13), .ref (na 14), .ref (na 15), .int 0, .int 0, .int 0, .int 0, .int 0, .int 0, .int 5, .int 0]))]) [0, 1] rfl
  have hD9 := hD.sub (ws' := [(xa 0, .inr (10, [.ref (xa 1), .ref (xa 2), .ref (na 0), .ref (pa 0), .ref (xa 3), .ref (na 1), .ref (na 2), .ref (xa 4), .ref (xa 5), .ref (xa 6), .ref (xa 7), .ref (xa 8), .ref (xa 9), .int ot, .int mk, .int st, .long tp, .long bt, .int fa, .int fp])), (na 1, .inr (4, [.ref (na 4), .ref (na 5), .ref (na 6), .ref (na 7), .ref (na 8), .ref (na 9), .ref (na 10), .ref (na 11), .ref (na 12), .ref (na 13), .ref (na 14), .ref (na 15), .int 0, .int 0, .int 0, .int 0, .int 0, .int 0, .int 5, .int 0]))]) [0, 1] (by decide) rfl
  exact W.iret (v := 1) hx hb hr (fun t9 ht hW => ⟨⟨1, (), rfl, rfl, ⟨by rw [ht]; exact hP9, hD9⟩⟩, hS.F ht⟩) hS.2.2 dX11_whyNoStep_13
