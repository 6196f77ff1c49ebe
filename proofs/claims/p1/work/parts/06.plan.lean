theorem dX4_allQuarrels_0 : decode cX4_allQuarrels 0 = .ok (.iconst 1, 1) := by decide +kernel
theorem dX4_allQuarrels_1 : decode cX4_allQuarrels 1 = .ok (.aload_n 0, 1) := by decide +kernel
theorem dX4_allQuarrels_2 : decode cX4_allQuarrels 2 = .ok (.getfield 63, 3) := by decide +kernel
theorem dX4_allQuarrels_5 : decode cX4_allQuarrels 5 = .ok (.ishl, 1) := by decide +kernel
theorem dX4_allQuarrels_6 : decode cX4_allQuarrels 6 = .ok (.iconst 1, 1) := by decide +kernel
theorem dX4_allQuarrels_7 : decode cX4_allQuarrels 7 = .ok (.isub, 1) := by decide +kernel
theorem dX4_allQuarrels_8 : decode cX4_allQuarrels 8 = .ok (.ireturn, 1) := by decide +kernel
def vdc_allQuarrels : List Cond := [.code yX4_allQuarrels cX4_allQuarrels 1 (some .int), .fieldLink RX4 63 "SaltStreet$Plan" "quarrels" "I"]
def vc_allQuarrels : List Cond := vdc_allQuarrels ++ (wsX40 ++ ([] : List Cond))
theorem ic_allQuarrels_X4 : ∀ w ∈ wsX40, w ∈ vc_allQuarrels := fun _ h => List.mem_append_right _ (List.mem_append_left _ h)
set_option maxHeartbeats 4000000 in
set_option maxRecDepth 100000 in
theorem c_allQuarrels (l : Launch) (D : va_G) (kc : Nat → ClassId) (sz : Nat) (na : Nat → Nat) : Met l yX4_allQuarrels vc_allQuarrels ({ frames := 0, cells := 0, slots := 0, locals := 0 }) (va_Pc [.ref (na 1)] (wPre D kc [(na 1, .inr (4, [.ref (na 4), .ref (na 5), .ref (na 6), .ref (na 7), .ref (na 8), .ref (na 9), .ref (na 10), .ref (na 11), .ref (na 12), .ref (na 13), .ref (na 14), .ref (na 15), .int 0, .int 0, .int 0, .int 0, .int 0, .int 0, .int 5, .int 0]))] sz)) (va_Qi (fun (r : Int32) (_ : Unit) => r = 0) (wPost D [(na 1, .inr (4, [.ref (na 4), .ref (na 5), .ref (na 6), .ref (na 7), .ref (na 8), .ref (na 9), .ref (na 10), .ref (na 11), .ref (na 12), .ref (na 13), .ref (na 14), .ref (na 15), .int 0, .int 0, .int 0, .int 0, .int 0, .int 0, .int 5, .int 0]))] (va_A [(na 1, .inr (4, [.ref (na 4), .ref (na 5), .ref (na 6), .ref (na 7), .ref (na 8), .ref (na 9), .ref (na 10), .ref (na 11), .ref (na 12), .ref (na 13), .ref (na 14), .ref (na 15), .int 0, .int 0, .int 0, .int 0, .int 0, .int 0, .int 5, .int 0]))] sz)) (va_A [(na 1, .inr (4, [.ref (na 4), .ref (na 5), .ref (na 6), .ref (na 7), .ref (na 8), .ref (na 9), .ref (na 10), .ref (na 11), .ref (na 12), .ref (na 13), .ref (na 14), .ref (na 15), .int 0, .int 0, .int 0, .int 0, .int 0, .int 0, .int 5, .int 0]))] sz)) 0 0 (va_A [(na 1, .inr (4, [.ref (na 4), .ref (na 5), .ref (na 6), .ref (na 7), .ref (na 8), .ref (na 9), .ref (na 10), .ref (na 11), .ref (na 12), .ref (na 13), .ref (na 14), .ref (na 15), .int 0, .int 0, .int 0, .int 0, .int 0, .int 0, .int 5, .int 0]))] sz) := by
  refine Met.ofW (cc := cX4_allQuarrels) (maxL := 1) (ret := (some .int)) (by decide) rfl ?_
  intro p e s m args below meth c s₁ B hml hv
  obtain ⟨rfl, hsz, hP, hE, hD0⟩ := hv
  have hx := B.exec
  have hb := B.bytes
  have hr := B.returns
  have hts := atoms_spec (ws := vc_allQuarrels) B.pre
  have hown : s.vm.findClass RX4 = some m.cls := findClass_of_methodNamed B.named
  have hlocks := B.notSynchronized
  subst hsz
  have hD := hD0.self (sz := s.heap.size)
  generalize hAe : va_A [(na 1, .inr (4, [.ref (na 4), .ref (na 5), .ref (na 6), .ref (na 7), .ref (na 8), .ref (na 9), .ref (na 10), .ref (na 11), .ref (na 12), .ref (na 13), .ref (na 14), .ref (na 15), .int 0, .int 0, .int 0, .int 0, .int 0, .int 0, .int 5, .int 0]))] s.heap.size = A at hD ⊢
  have hA : ∀ q : Nat, s.heap.size ≤ q → A q := fun q h => by rw [← hAe]; exact Or.inr h
  have hS : va_S A s.heap s.heap [] := va_S.rf
  have hK := hE.1
  have hP : va_P D vwCl [(na 1, .inr (4, [.ref (na 4), .ref (na 5), .ref (na 6), .ref (na 7), .ref (na 8), .ref (na 9), .ref (na 10), .ref (na 11), .ref (na 12), .ref (na 13), .ref (na 14), .ref (na 15), .int 0, .int 0, .int 0, .int 0, .int 0, .int 0, .int 5, .int 0]))] s.heap := hP
  have hl := lv_entry ([.ref (na 1)]) (n := 1) (Nat.le_of_ble_eq_true rfl)
  rw [lg_entry_eq]
  generalize (lg_sl ([.ref (na 1)]) ++ List.replicate (1 - (lg_sl ([.ref (na 1)])).length) Slot.unset).toArray = ls at hl ⊢
  have hl : lv_has ls 1 [(0, .ref (na 1))] := hl
  refine lv_iconst (v := 1) hx hb dX4_allQuarrels_0 (by decide) ?_
  refine lv_aload_n hx hb dX4_allQuarrels_1 rfl (lv_at hl 0 rfl) ?_
  refine va_get (D := D) (ci := 4) (v := .int 0) (C := RX4) (T := TX4) (N := 20) hx hb hts ic_allQuarrels_X4 hown hK hP 0 rfl rfl 14 (by decide) (hts (.fieldLink RX4 63 "SaltStreet$Plan" "quarrels" "I") (List.mem_of_getElem? (i := 1) rfl)) (fun _ h9 => h9) rfl dX4_allQuarrels_2 ?_
  refine lv_ishl hx hb dX4_allQuarrels_5 ?_
  refine lv_ci (y := 1) (by decide) ?_
  refine lv_iconst (v := 1) hx hb dX4_allQuarrels_6 (by decide) ?_
  refine lv_isub hx hb dX4_allQuarrels_7 ?_
  refine lv_ci (y := 0) (by decide) ?_
  have hP9 := hP.sub (ws' := [(na 1, .inr (4, [.ref (na 4), .ref (na 5), .ref (na 6), .ref (na 7), .ref (na 8), .ref (na 9), .ref (na 10), .ref (na 11), .ref (na 12), .ref (na 13), .ref (na 14), .ref (na 15), .int 0, .int 0, .int 0, .int 0, .int 0, .int 0, .int 5, .int 0]))]) [0] rfl
  have hD9 := hD.sub (ws' := [(na 1, .inr (4, [.ref (na 4), .ref (na 5), .ref (na 6), .ref (na 7), .ref (na 8), .ref (na 9), .ref (na 10), .ref (na 11), .ref (na 12), .ref (na 13), .ref (na 14), .ref (na 15), .int 0, .int 0, .int 0, .int 0, .int 0, .int 0, .int 5, .int 0]))]) [0] (by decide) rfl
  exact W.iret (v := 0) hx hb hr (fun t9 ht hW => ⟨⟨0, (), rfl, rfl, ⟨by rw [ht]; exact hP9, hD9⟩⟩, hS.F ht⟩) hS.2.2 dX4_allQuarrels_8
theorem dX4_allHouses_0 : decode cX4_allHouses 0 = .ok (.iconst 1, 1) := by decide +kernel
theorem dX4_allHouses_1 : decode cX4_allHouses 1 = .ok (.aload_n 0, 1) := by decide +kernel
theorem dX4_allHouses_2 : decode cX4_allHouses 2 = .ok (.getfield 60, 3) := by decide +kernel
theorem dX4_allHouses_5 : decode cX4_allHouses 5 = .ok (.ishl, 1) := by decide +kernel
theorem dX4_allHouses_6 : decode cX4_allHouses 6 = .ok (.iconst 1, 1) := by decide +kernel
theorem dX4_allHouses_7 : decode cX4_allHouses 7 = .ok (.isub, 1) := by decide +kernel
theorem dX4_allHouses_8 : decode cX4_allHouses 8 = .ok (.ireturn, 1) := by decide +kernel
def vdc_allHouses : List Cond := [.code yX4_allHouses cX4_allHouses 1 (some .int), .fieldLink RX4 60 "SaltStreet$Plan" "houses" "I"]
def vc_allHouses : List Cond := vdc_allHouses ++ (wsX40 ++ ([] : List Cond))
theorem ic_allHouses_X4 : ∀ w ∈ wsX40, w ∈ vc_allHouses := fun _ h => List.mem_append_right _ (List.mem_append_left _ h)
set_option maxHeartbeats 4000000 in
set_option maxRecDepth 100000 in
theorem c_allHouses (l : Launch) (D : va_G) (kc : Nat → ClassId) (sz : Nat) (na : Nat → Nat) : Met l yX4_allHouses vc_allHouses ({ frames := 0, cells := 0, slots := 0, locals := 0 }) (va_Pc [.ref (na 1)] (wPre D kc [(na 1, .inr (4, [.ref (na 4), .ref (na 5), .ref (na 6), .ref (na 7), .ref (na 8), .ref (na 9), .ref (na 10), .ref (na 11), .ref (na 12), .ref (na 13), .ref (na 14), .ref (na 15), .int 0, .int 0, .int 0, .int 0, .int 0, .int 0, .int 5, .int 0]))] sz)) (va_Qi (fun (r : Int32) (_ : Unit) => r = 0) (wPost D [(na 1, .inr (4, [.ref (na 4), .ref (na 5), .ref (na 6), .ref (na 7), .ref (na 8), .ref (na 9), .ref (na 10), .ref (na 11), .ref (na 12), .ref (na 13), .ref (na 14), .ref (na 15), .int 0, .int 0, .int 0, .int 0, .int 0, .int 0, .int 5, .int 0]))] (va_A [(na 1, .inr (4, [.ref (na 4), .ref (na 5), .ref (na 6), .ref (na 7), .ref (na 8), .ref (na 9), .ref (na 10), .ref (na 11), .ref (na 12), .ref (na 13), .ref (na 14), .ref (na 15), .int 0, .int 0, .int 0, .int 0, .int 0, .int 0, .int 5, .int 0]))] sz)) (va_A [(na 1, .inr (4, [.ref (na 4), .ref (na 5), .ref (na 6), .ref (na 7), .ref (na 8), .ref (na 9), .ref (na 10), .ref (na 11), .ref (na 12), .ref (na 13), .ref (na 14), .ref (na 15), .int 0, .int 0, .int 0, .int 0, .int 0, .int 0, .int 5, .int 0]))] sz)) 0 0 (va_A [(na 1, .inr (4, [.ref (na 4), .ref (na 5), .ref (na 6), .ref (na 7), .ref (na 8), .ref (na 9), .ref (na 10), .ref (na 11), .ref (na 12), .ref (na 13), .ref (na 14), .ref (na 15), .int 0, .int 0, .int 0, .int 0, .int 0, .int 0, .int 5, .int 0]))] sz) := by
  refine Met.ofW (cc := cX4_allHouses) (maxL := 1) (ret := (some .int)) (by decide) rfl ?_
  intro p e s m args below meth c s₁ B hml hv
  obtain ⟨rfl, hsz, hP, hE, hD0⟩ := hv
  have hx := B.exec
  have hb := B.bytes
  have hr := B.returns
  have hts := atoms_spec (ws := vc_allHouses) B.pre
  have hown : s.vm.findClass RX4 = some m.cls := findClass_of_methodNamed B.named
  have hlocks := B.notSynchronized
  subst hsz
  have hD := hD0.self (sz := s.heap.size)
  generalize hAe : va_A [(na 1, .inr (4, [.ref (na 4), .ref (na 5), .ref (na 6), .ref (na 7), .ref (na 8), .ref (na 9), .ref (na 10), .ref (na 11), .ref (na 12), .ref (na 13), .ref (na 14), .ref (na 15), .int 0, .int 0, .int 0, .int 0, .int 0, .int 0, .int 5, .int 0]))] s.heap.size = A at hD ⊢
  have hA : ∀ q : Nat, s.heap.size ≤ q → A q := fun q h => by rw [← hAe]; exact Or.inr h
  have hS : va_S A s.heap s.heap [] := va_S.rf
  have hK := hE.1
  have hP : va_P D vwCl [(na 1, .inr (4, [.ref (na 4), .ref (na 5), .ref (na 6), .ref (na 7), .ref (na 8), .ref (na 9), .ref (na 10), .ref (na 11), .ref (na 12), .ref (na 13), .ref (na 14), .ref (na 15), .int 0, .int 0, .int 0, .int 0, .int 0, .int 0, .int 5, .int 0]))] s.heap := hP
  have hl := lv_entry ([.ref (na 1)]) (n := 1) (Nat.le_of_ble_eq_true rfl)
  rw [lg_entry_eq]
  generalize (lg_sl ([.ref (na 1)]) ++ List.replicate (1 - (lg_sl ([.ref (na 1)])).length) Slot.unset).toArray = ls at hl ⊢
  have hl : lv_has ls 1 [(0, .ref (na 1))] := hl
  refine lv_iconst (v := 1) hx hb dX4_allHouses_0 (by decide) ?_
  refine lv_aload_n hx hb dX4_allHouses_1 rfl (lv_at hl 0 rfl) ?_
  refine va_get (D := D) (ci := 4) (v := .int 0) (C := RX4) (T := TX4) (N := 20) hx hb hts ic_allHouses_X4 hown hK hP 0 rfl rfl 13 (by decide) (hts (.fieldLink RX4 60 "SaltStreet$Plan" "houses" "I") (List.mem_of_getElem? (i := 1) rfl)) (fun _ h9 => h9) rfl dX4_allHouses_2 ?_
  refine lv_ishl hx hb dX4_allHouses_5 ?_
  refine lv_ci (y := 1) (by decide) ?_
  refine lv_iconst (v := 1) hx hb dX4_allHouses_6 (by decide) ?_
  refine lv_isub hx hb dX4_allHouses_7 ?_
  refine lv_ci (y := 0) (by decide) ?_
  have hP9 := hP.sub (ws' := [(na 1, .inr (4, [.ref (na 4), .ref (na 5), .ref (na 6), .ref (na 7), .ref (na 8), .ref (na 9), .ref (na 10), .ref (na 11), .ref (na 12), .ref (na 13), .ref (na 14), .ref (na 15), .int 0, .int 0, .int 0, .int 0, .int 0, .int 0, .int 5, .int 0]))]) [0] rfl
  have hD9 := hD.sub (ws' := [(na 1, .inr (4, [.ref (na 4), .ref (na 5), .ref (na 6), .ref (na 7), .ref (na 8), .ref (na 9), .ref (na 10), .ref (na 11), .ref (na 12), .ref (na 13), .ref (na 14), .ref (na 15), .int 0, .int 0, .int 0, .int 0, .int 0, .int 0, .int 5, .int 0]))]) [0] (by decide) rfl
  exact W.iret (v := 0) hx hb hr (fun t9 ht hW => ⟨⟨0, (), rfl, rfl, ⟨by rw [ht]; exact hP9, hD9⟩⟩, hS.F ht⟩) hS.2.2 dX4_allHouses_8
theorem dX4_withoutHope_0 : decode cX4_withoutHope 0 = .ok (.iconst 0, 1) := by decide +kernel
theorem dX4_withoutHope_1 : decode cX4_withoutHope 1 = .ok (.istore_n 1, 1) := by decide +kernel
theorem dX4_withoutHope_2 : decode cX4_withoutHope 2 = .ok (.iconst 0, 1) := by decide +kernel
theorem dX4_withoutHope_3 : decode cX4_withoutHope 3 = .ok (.istore_n 2, 1) := by decide +kernel
theorem dX4_withoutHope_4 : decode cX4_withoutHope 4 = .ok (.iload_n 2, 1) := by decide +kernel
theorem dX4_withoutHope_5 : decode cX4_withoutHope 5 = .ok (.aload_n 0, 1) := by decide +kernel
theorem dX4_withoutHope_6 : decode cX4_withoutHope 6 = .ok (.getfield 60, 3) := by decide +kernel
theorem dX4_withoutHope_9 : decode cX4_withoutHope 9 = .ok (.if_icmp .ge 33, 3) := by decide +kernel
theorem dX4_withoutHope_42 : decode cX4_withoutHope 42 = .ok (.iload_n 1, 1) := by decide +kernel
theorem dX4_withoutHope_43 : decode cX4_withoutHope 43 = .ok (.ireturn, 1) := by decide +kernel
def vdc_withoutHope : List Cond := [.code yX4_withoutHope cX4_withoutHope 3 (some .int), .fieldLink RX4 60 "SaltStreet$Plan" "houses" "I"]
def vc_withoutHope : List Cond := vdc_withoutHope ++ (wsX40 ++ ([] : List Cond))
theorem ic_withoutHope_X4 : ∀ w ∈ wsX40, w ∈ vc_withoutHope := fun _ h => List.mem_append_right _ (List.mem_append_left _ h)
set_option maxHeartbeats 4000000 in
set_option maxRecDepth 100000 in
theorem c_withoutHope (l : Launch) (D : va_G) (kc : Nat → ClassId) (sz : Nat) (na : Nat → Nat) : Met l yX4_withoutHope vc_withoutHope ({ frames := 0, cells := 0, slots := 0, locals := 0 }) (va_Pc [.ref (na 1)] (wPre D kc [(na 1, .inr (4, [.ref (na 4), .ref (na 5), .ref (na 6), .ref (na 7), .ref (na 8), .ref (na 9), .ref (na 10), .ref (na 11), .ref (na 12), .ref (na 13), .ref (na 14), .ref (na 15), .int 0, .int 0, .int 0, .int 0, .int 0, .int 0, .int 5, .int 0]))] sz)) (va_Qi (fun (r : Int32) (_ : Unit) => r = 0) (wPost D [(na 1, .inr (4, [.ref (na 4), .ref (na 5), .ref (na 6), .ref (na 7), .ref (na 8), .ref (na 9), .ref (na 10), .ref (na 11), .ref (na 12), .ref (na 13), .ref (na 14), .ref (na 15), .int 0, .int 0, .int 0, .int 0, .int 0, .int 0, .int 5, .int 0]))] (va_A [(na 1, .inr (4, [.ref (na 4), .ref (na 5), .ref (na 6), .ref (na 7), .ref (na 8), .ref (na 9), .ref (na 10), .ref (na 11), .ref (na 12), .ref (na 13), .ref (na 14), .ref (na 15), .int 0, .int 0, .int 0, .int 0, .int 0, .int 0, .int 5, .int 0]))] sz)) (va_A [(na 1, .inr (4, [.ref (na 4), .ref (na 5), .ref (na 6), .ref (na 7), .ref (na 8), .ref (na 9), .ref (na 10), .ref (na 11), .ref (na 12), .ref (na 13), .ref (na 14), .ref (na 15), .int 0, .int 0, .int 0, .int 0, .int 0, .int 0, .int 5, .int 0]))] sz)) 0 0 (va_A [(na 1, .inr (4, [.ref (na 4), .ref (na 5), .ref (na 6), .ref (na 7), .ref (na 8), .ref (na 9), .ref (na 10), .ref (na 11), .ref (na 12), .ref (na 13), .ref (na 14), .ref (na 15), .int 0, .int 0, .int 0, .int 0, .int 0, .int 0, .int 5, .int 0]))] sz) := by
  refine Met.ofW (cc := cX4_withoutHope) (maxL := 3) (ret := (some .int)) (by decide) rfl ?_
  intro p e s m args below meth c s₁ B hml hv
  obtain ⟨rfl, hsz, hP, hE, hD0⟩ := hv
  have hx := B.exec
  have hb := B.bytes
  have hr := B.returns
  have hts := atoms_spec (ws := vc_withoutHope) B.pre
  have hown : s.vm.findClass RX4 = some m.cls := findClass_of_methodNamed B.named
  have hlocks := B.notSynchronized
  subst hsz
  have hD := hD0.self (sz := s.heap.size)
  generalize hAe : va_A [(na 1, .inr (4, [.ref (na 4), .ref (na 5), .ref (na 6), .ref (na 7), .ref (na 8), .ref (na 9), .ref (na 10), .ref (na 11), .ref (na 12), .ref (na 13), .ref (na 14), .ref (na 15), .int 0, .int 0, .int 0, .int 0, .int 0, .int 0, .int 5, .int 0]))] s.heap.size = A at hD ⊢
  have hA : ∀ q : Nat, s.heap.size ≤ q → A q := fun q h => by rw [← hAe]; exact Or.inr h
  have hS : va_S A s.heap s.heap [] := va_S.rf
  have hK := hE.1
  have hP : va_P D vwCl [(na 1, .inr (4, [.ref (na 4), .ref (na 5), .ref (na 6), .ref (na 7), .ref (na 8), .ref (na 9), .ref (na 10), .ref (na 11), .ref (na 12), .ref (na 13), .ref (na 14), .ref (na 15), .int 0, .int 0, .int 0, .int 0, .int 0, .int 0, .int 5, .int 0]))] s.heap := hP
  have hl := lv_entry ([.ref (na 1)]) (n := 3) (Nat.le_of_ble_eq_true rfl)
  rw [lg_entry_eq]
  generalize (lg_sl ([.ref (na 1)]) ++ List.replicate (3 - (lg_sl ([.ref (na 1)])).length) Slot.unset).toArray = ls at hl ⊢
  have hl : lv_has ls 3 [(0, .ref (na 1))] := hl
  refine lv_iconst (v := 0) hx hb dX4_withoutHope_0 (by decide) ?_
  refine lv_istore_n (lv' := [(1, .int 0), (0, .ref (na 1))]) hx hb dX4_withoutHope_1 rfl hl (by decide) rfl (fun ls hl => ?_)
  refine lv_iconst (v := 0) hx hb dX4_withoutHope_2 (by decide) ?_
  refine lv_istore_n (lv' := [(2, .int 0), (1, .int 0), (0, .ref (na 1))]) hx hb dX4_withoutHope_3 rfl hl (by decide) rfl (fun ls hl => ?_)
  refine lv_iload_n hx hb dX4_withoutHope_4 rfl (lv_at hl 0 rfl) ?_
  refine lv_aload_n hx hb dX4_withoutHope_5 rfl (lv_at hl 2 rfl) ?_
  refine va_get (D := D) (ci := 4) (v := .int 0) (C := RX4) (T := TX4) (N := 20) hx hb hts ic_withoutHope_X4 hown hK hP 0 rfl rfl 13 (by decide) (hts (.fieldLink RX4 60 "SaltStreet$Plan" "houses" "I") (List.mem_of_getElem? (i := 1) rfl)) (fun _ h9 => h9) rfl dX4_withoutHope_6 ?_
  refine lv_icmp_ge (tgt := 42) hx hb dX4_withoutHope_9 (by decide) (fun _ => ?_) (fun h => absurd (by decide) h)
  refine lv_iload_n hx hb dX4_withoutHope_42 rfl (lv_at hl 1 rfl) ?_
  have hP9 := hP.sub (ws' := [(na 1, .inr (4, [.ref (na 4), .ref (na 5), .ref (na 6), .ref (na 7), .ref (na 8), .ref (na 9), .ref (na 10), .ref (na 11), .ref (na 12), .ref (na 13), .ref (na 14), .ref (na 15), .int 0, .int 0, .int 0, .int 0, .int 0, .int 0, .int 5, .int 0]))]) [0] rfl
  have hD9 := hD.sub (ws' := [(na 1, .inr (4, [.ref (na 4), .ref (na 5), .ref (na 6), .ref (na 7), .ref (na 8), .ref (na 9), .ref (na 10), .ref (na 11), .ref (na 12), .ref (na 13), .ref (na 14), .ref (na 15), .int 0, .int 0, .int 0, .int 0, .int 0, .int 0, .int 5, .int 0]))]) [0] (by decide) rfl
  exact W.iret (v := 0) hx hb hr (fun t9 ht hW => ⟨⟨0, (), rfl, rfl, ⟨by rw [ht]; exact hP9, hD9⟩⟩, hS.F ht⟩) hS.2.2 dX4_withoutHope_43
theorem dX9_atPeace_0 : decode cX9_atPeace 0 = .ok (.aload_n 0, 1) := by decide +kernel
theorem dX9_atPeace_1 : decode cX9_atPeace 1 = .ok (.invokevirtual 55, 3) := by decide +kernel
theorem dX9_atPeace_4 : decode cX9_atPeace 4 = .ok (.istore_n 3, 1) := by decide +kernel
theorem dX9_atPeace_5 : decode cX9_atPeace 5 = .ok (.iconst 0, 1) := by decide +kernel
theorem dX9_atPeace_6 : decode cX9_atPeace 6 = .ok (.istore 4, 2) := by decide +kernel
theorem dX9_atPeace_8 : decode cX9_atPeace 8 = .ok (.iload 4, 2) := by decide +kernel
theorem dX9_atPeace_10 : decode cX9_atPeace 10 = .ok (.aload_n 0, 1) := by decide +kernel
theorem dX9_atPeace_11 : decode cX9_atPeace 11 = .ok (.getfield 59, 3) := by decide +kernel
theorem dX9_atPeace_14 : decode cX9_atPeace 14 = .ok (.if_icmp .ge 35, 3) := by decide +kernel
theorem dX9_atPeace_49 : decode cX9_atPeace 49 = .ok (.iload_n 3, 1) := by decide +kernel
theorem dX9_atPeace_50 : decode cX9_atPeace 50 = .ok (.ireturn, 1) := by decide +kernel
def vdc_atPeace : List Cond := [.code yX9_atPeace cX9_atPeace 5 (some .int), .methodLink RX9 55 yX4_allQuarrels, .code yX4_allQuarrels cX4_allQuarrels 1 (some .int), .fieldLink RX4 63 "SaltStreet$Plan" "quarrels" "I", .instanceMethod yX4_allQuarrels, .selects RX4 yX4_allQuarrels yX4_allQuarrels, .initialized RX4]
def vc_atPeace : List Cond := vdc_atPeace ++ (wsX40 ++ ([] : List Cond))
theorem ic_atPeace_X4 : ∀ w ∈ wsX40, w ∈ vc_atPeace := fun _ h => List.mem_append_right _ (List.mem_append_left _ h)
set_option maxRecDepth 20000 in
theorem gc_atPeace_55_c_allQuarrels : GoodIn vc_atPeace (wsV RX9 55 RX4 yX4_allQuarrels vc_allQuarrels) := (goodIn_app (goodIn_r _ [1, 4, 5, 6] rfl (by decide +kernel)) (goodIn_app (goodIn_r vdc_allQuarrels [2, 3] rfl (by decide +kernel)) (goodIn_app (goodIn_sub ic_atPeace_X4 gdX4) goodIn_nil)))
set_option maxHeartbeats 4000000 in
set_option maxRecDepth 100000 in
theorem c_atPeace (l : Launch) (D : va_G) (kc : Nat → ClassId) (sz : Nat) (na : Nat → Nat) (q : Int32) (rn : Int32) : Met l yX9_atPeace vc_atPeace ({ frames := 1, cells := 0, slots := 0, locals := 20 }) (va_Pc [.ref (na 1), .ref (na 2), .int q] (wPre D kc [(na 1, .inr (4, [.ref (na 4), .ref (na 5), .ref (na 6), .ref (na 7), .ref (na 8), .ref (na 9), .ref (na 10), .ref (na 11), .ref (na 12), .ref (na 13), .ref (na 14), .ref (na 15), .int 0, .int 0, .int 0, .int 0, .int 0, .int 0, .int 5, .int 0])), (na 2, .inr (2, [.ref (na 16), .ref (na 17), .ref (na 18), .ref (na 19), .ref (na 20), .int 0, .int 0, .int rn, .int 0, .int 0, .int 0, .int 0, .int 0]))] sz)) (va_Qi (fun (r : Int32) (_ : Unit) => r = 0) (wPost D [(na 1, .inr (4, [.ref (na 4), .ref (na 5), .ref (na 6), .ref (na 7), .ref (na 8), .ref (na 9), .ref (na 10), .ref (na 11), .ref (na 12), .ref (na 13), .ref (na 14), .ref (na 15), .int 0, .int 0, .int 0, .int 0, .int 0, .int 0, .int 5, .int 0])), (na 2, .inr (2, [.ref (na 16), .ref (na 17), .ref (na 18), .ref (na 19), .ref (na 20), .int 0, .int 0, .int rn, .int 0, .int 0, .int 0, .int 0, .int 0]))] (va_A [(na 1, .inr (4, [.ref (na 4), .ref (na 5), .ref (na 6), .ref (na 7), .ref (na 8), .ref (na 9), .ref (na 10), .ref (na 11), .ref (na 12), .ref (na 13), .ref (na 14), .ref (na 15), .int 0, .int 0, .int 0, .int 0, .int 0, .int 0, .int 5, .int 0])), (na 2, .inr (2, [.ref (na 16), .ref (na 17), .ref (na 18), .ref (na 19), .ref (na 20), .int 0, .int 0, .int rn, .int 0, .int 0, .int 0, .int 0, .int 0]))] sz)) (va_A [(na 1, .inr (4, [.ref (na 4), .ref (na 5), .ref (na 6), .ref (na 7), .ref (na 8), .ref (na 9), .ref (na 10), .ref (na 11), .ref (na 12), .ref (na 13), .ref (na 14), .ref (na 15), .int 0, .int 0, .int 0, .int 0, .int 0, .int 0, .int 5, .int 0])), (na 2, .inr (2, [.ref (na 16), .ref (na 17), .ref (na 18), .ref (na 19), .ref (na 20), .int 0, .int 0, .int rn, .int 0, .int 0, .int 0, .int 0, .int 0]))] sz)) 0 0 (va_A [(na 1, .inr (4, [.ref (na 4), .ref (na 5), .ref (na 6), .ref (na 7), .ref (na 8), .ref (na 9), .ref (na 10), .ref (na 11), .ref (na 12), .ref (na 13), .ref (na 14), .ref (na 15), .int 0, .int 0, .int 0, .int 0, .int 0, .int 0, .int 5, .int 0])), (na 2, .inr (2, [.ref (na 16), .ref (na 17), .ref (na 18), .ref (na 19), .ref (na 20), .int 0, .int 0, .int rn, .int 0, .int 0, .int 0, .int 0, .int 0]))] sz) := by
  refine Met.ofW (cc := cX9_atPeace) (maxL := 5) (ret := (some .int)) (by decide) rfl ?_
  intro p e s m args below meth c s₁ B hml hv
  obtain ⟨rfl, hsz, hP, hE, hD0⟩ := hv
  have hx := B.exec
  have hb := B.bytes
  have hr := B.returns
  have hts := atoms_spec (ws := vc_atPeace) B.pre
  have hown : s.vm.findClass RX9 = some m.cls := findClass_of_methodNamed B.named
  have hlocks := B.notSynchronized
  subst hsz
  have hD := hD0.self (sz := s.heap.size)
  generalize hAe : va_A [(na 1, .inr (4, [.ref (na 4), .ref (na 5), .ref (na 6), .ref (na 7), .ref (na 8), .ref (na 9), .ref (na 10), .ref (na 11), .ref (na 12), .ref (na 13), .ref (na 14), .ref (na 15), .int 0, .int 0, .int 0, .int 0, .int 0, .int 0, .int 5, .int 0])), (na 2, .inr (2, [.ref (na 16), .ref (na 17), .ref (na 18), .ref (na 19), .ref (na 20), .int 0, .int 0, .int rn, .int 0, .int 0, .int 0, .int 0, .int 0]))] s.heap.size = A at hD ⊢
  have hA : ∀ q : Nat, s.heap.size ≤ q → A q := fun q h => by rw [← hAe]; exact Or.inr h
  have hS : va_S A s.heap s.heap [] := va_S.rf
  have hK := hE.1
  have hP : va_P D vwCl [(na 1, .inr (4, [.ref (na 4), .ref (na 5), .ref (na 6), .ref (na 7), .ref (na 8), .ref (na 9), .ref (na 10), .ref (na 11), .ref (na 12), .ref (na 13), .ref (na 14), .ref (na 15), .int 0, .int 0, .int 0, .int 0, .int 0, .int 0, .int 5, .int 0])), (na 2, .inr (2, [.ref (na 16), .ref (na 17), .ref (na 18), .ref (na 19), .ref (na 20), .int 0, .int 0, .int rn, .int 0, .int 0, .int 0, .int 0, .int 0]))] s.heap := hP
  have hl := lv_entry ([.ref (na 1), .ref (na 2), .int q]) (n := 5) (Nat.le_of_ble_eq_true rfl)
  rw [lg_entry_eq]
  generalize (lg_sl ([.ref (na 1), .ref (na 2), .int q]) ++ List.replicate (5 - (lg_sl ([.ref (na 1), .ref (na 2), .int q])).length) Slot.unset).toArray = ls at hl ⊢
  have hl : lv_has ls 5 [(0, .ref (na 1)), (1, .ref (na 2)), (2, .int q)] := hl
  refine lv_aload_n hx hb dX9_atPeace_0 rfl (lv_at hl 0 rfl) ?_
  have hPc := hP.sub (ws' := [(na 1, .inr (4, [.ref (na 4), .ref (na 5), .ref (na 6), .ref (na 7), .ref (na 8), .ref (na 9), .ref (na 10), .ref (na 11), .ref (na 12), .ref (na 13), .ref (na 14), .ref (na 15), .int 0, .int 0, .int 0, .int 0, .int 0, .int 0, .int 5, .int 0]))]) [0] rfl
  have hDc := hD.sub (ws' := [(na 1, .inr (4, [.ref (na 4), .ref (na 5), .ref (na 6), .ref (na 7), .ref (na 8), .ref (na 9), .ref (na 10), .ref (na 11), .ref (na 12), .ref (na 13), .ref (na 14), .ref (na 15), .int 0, .int 0, .int 0, .int 0, .int 0, .int 0, .int 5, .int 0]))]) [0] (by decide) rfl
  have hFc := va_free (wc := [(na 1, .inr (4, [.ref (na 4), .ref (na 5), .ref (na 6), .ref (na 7), .ref (na 8), .ref (na 9), .ref (na 10), .ref (na 11), .ref (na 12), .ref (na 13), .ref (na 14), .ref (na 15), .int 0, .int 0, .int 0, .int 0, .int 0, .int 0, .int 5, .int 0]))]) hD hS hA [0] rfl
  refine va_calli (va_runV (As := []) (rest := []) ⟨hx, hb, hml, hown, hts⟩ (c_allQuarrels l D kc s.heap.size na) (cwV 0 hts gc_atPeace_55_c_allQuarrels rfl rfl rfl (by decide +kernel) ⟨Nat.le_of_ble_eq_true rfl, Nat.le_of_ble_eq_true rfl⟩) (preV_ok hPc hDc hE (ci := 4) (q0 := 0) rfl rfl) rfl rfl hl.1 rfl (lv_room (Nat.le_of_ble_eq_true rfl)) dX9_atPeace_1 ⟨Nat.le_of_ble_eq_true rfl, Nat.le_of_ble_eq_true rfl⟩) hS (fun q _ h => hFc q h) hFc (fun r_1 u9 t9 H locs ht hvm hw hB hz1 hk1 hS => ?_)
  obtain ⟨hP1, hD1⟩ := hB
  rw [ht] at hP1
  obtain ⟨hP, hD⟩ := va_join (wr := [(na 2, .inr (2, [.ref (na 16), .ref (na 17), .ref (na 18), .ref (na 19), .ref (na 20), .int 0, .int 0, .int rn, .int 0, .int 0, .int 0, .int 0, .int 0]))]) (w1 := [(na 1, .inr (4, [.ref (na 4), .ref (na 5), .ref (na 6), .ref (na 7), .ref (na 8), .ref (na 9), .ref (na 10), .ref (na 11), .ref (na 12), .ref (na 13), .ref (na 14), .ref (na 15), .int 0, .int 0, .int 0, .int 0, .int 0, .int 0, .int 5, .int 0]))]) hP hD [0] [1] rfl rfl (by decide) (by decide) hk1 hFc hP1 hD1
  have hP : va_P D vwCl [(na 2, .inr (2, [.ref (na 16), .ref (na 17), .ref (na 18), .ref (na 19), .ref (na 20), .int 0, .int 0, .int rn, .int 0, .int 0, .int 0, .int 0, .int 0])), (na 1, .inr (4, [.ref (na 4), .ref (na 5), .ref (na 6), .ref (na 7), .ref (na 8), .ref (na 9), .ref (na 10), .ref (na 11), .ref (na 12), .ref (na 13), .ref (na 14), .ref (na 15), .int 0, .int 0, .int 0, .int 0, .int 0, .int 0, .int 5, .int 0]))] H := hP
  have hD : va_D A [(na 2, .inr (2, [.ref (na 16), .ref (na 17), .ref (na 18), .ref (na 19), .ref (na 20), .int 0, .int 0, .int rn, .int 0, .int 0, .int 0, .int 0, .int 0])), (na 1, .inr (4, [.ref (na 4), .ref (na 5), .ref (na 6), .ref (na 7), .ref (na 8), .ref (na 9), .ref (na 10), .ref (na 11), .ref (na 12), .ref (na 13), .ref (na 14), .ref (na 15), .int 0, .int 0, .int 0, .int 0, .int 0, .int 0, .int 5, .int 0]))] := hD
  subst hw
  refine lv_istore_n (lv' := [(3, .int 0), (0, .ref (na 1)), (1, .ref (na 2)), (2, .int q)]) hx hb dX9_atPeace_4 rfl hl (by decide) rfl (fun ls hl => ?_)
  refine lv_iconst (v := 0) hx hb dX9_atPeace_5 (by decide) ?_
  refine lv_istore (lv' := [(4, .int 0), (3, .int 0), (0, .ref (na 1)), (1, .ref (na 2)), (2, .int q)]) hx hb dX9_atPeace_6 hl (by decide) rfl (fun ls hl => ?_)
  refine lv_iload hx hb dX9_atPeace_8 (lv_at hl 0 rfl) ?_
  refine lv_aload_n hx hb dX9_atPeace_10 rfl (lv_at hl 2 rfl) ?_
  refine va_getN (D := D) (ci := 4) (v := .int 0) (C := RX4) (T := TX4) (N := 20) hx hb hts ic_atPeace_X4 hown hK hP 1 rfl rfl 13 (by decide) (hE.nw 34 rfl) (fun _ h9 => h9) rfl dX9_atPeace_11 ?_
  refine lv_icmp_ge (tgt := 49) hx hb dX9_atPeace_14 (by decide) (fun _ => ?_) (fun h => absurd (by decide) h)
  refine lv_iload_n hx hb dX9_atPeace_49 rfl (lv_at hl 1 rfl) ?_
  have hP9 := hP.sub (ws' := [(na 1, .inr (4, [.ref (na 4), .ref (na 5), .ref (na 6), .ref (na 7), .ref (na 8), .ref (na 9), .ref (na 10), .ref (na 11), .ref (na 12), .ref (na 13), .ref (na 14), .ref (na 15), .int 0, .int 0, .int 0, .int 0, .int 0, .int 0, .int 5, .int 0])), (na 2, .inr (2, [.ref (na 16), .ref (na 17), .ref (na 18), .ref (na 19), .ref (na 20), .int 0, .int 0, .int rn, .int 0, .int 0, .int 0, .int 0, .int 0]))]) [1, 0] rfl
  have hD9 := hD.sub (ws' := [(na 1, .inr (4, [.ref (na 4), .ref (na 5), .ref (na 6), .ref (na 7), .ref (na 8), .ref (na 9), .ref (na 10), .ref (na 11), .ref (na 12), .ref (na 13), .ref (na 14), .ref (na 15), .int 0, .int 0, .int 0, .int 0, .int 0, .int 0, .int 5, .int 0])), (na 2, .inr (2, [.ref (na 16), .ref (na 17), .ref (na 18), .ref (na 19), .ref (na 20), .int 0, .int 0, .int rn, .int 0, .int 0, .int 0, .int 0, .int 0]))]) [1, 0] (by decide) rfl
  exact W.iret (v := 0) hx hb hr (fun t9 ht hW => ⟨⟨0, (), rfl, rfl, ⟨by rw [ht]; exact hP9, hD9⟩⟩, hS.F ht⟩) hS.2.2 dX9_atPeace_50
theorem dX9_inTruce_0 : decode cX9_inTruce 0 = .ok (.aload_n 0, 1) := by decide +kernel
theorem dX9_inTruce_1 : decode cX9_inTruce 1 = .ok (.invokevirtual 55, 3) := by decide +kernel
theorem dX9_inTruce_4 : decode cX9_inTruce 4 = .ok (.istore_n 2, 1) := by decide +kernel
theorem dX9_inTruce_5 : decode cX9_inTruce 5 = .ok (.iconst 0, 1) := by decide +kernel
theorem dX9_inTruce_6 : decode cX9_inTruce 6 = .ok (.istore_n 3, 1) := by decide +kernel
theorem dX9_inTruce_7 : decode cX9_inTruce 7 = .ok (.iload_n 3, 1) := by decide +kernel
theorem dX9_inTruce_8 : decode cX9_inTruce 8 = .ok (.aload_n 0, 1) := by decide +kernel
theorem dX9_inTruce_9 : decode cX9_inTruce 9 = .ok (.getfield 59, 3) := by decide +kernel
theorem dX9_inTruce_12 : decode cX9_inTruce 12 = .ok (.if_icmp .ge 31, 3) := by decide +kernel
theorem dX9_inTruce_43 : decode cX9_inTruce 43 = .ok (.iload_n 2, 1) := by decide +kernel
theorem dX9_inTruce_44 : decode cX9_inTruce 44 = .ok (.ireturn, 1) := by decide +kernel
def vdc_inTruce : List Cond := [.code yX9_inTruce cX9_inTruce 4 (some .int), .methodLink RX9 55 yX4_allQuarrels, .code yX4_allQuarrels cX4_allQuarrels 1 (some .int), .fieldLink RX4 63 "SaltStreet$Plan" "quarrels" "I", .instanceMethod yX4_allQuarrels, .selects RX4 yX4_allQuarrels yX4_allQuarrels, .initialized RX4]
def vc_inTruce : List Cond := vdc_inTruce ++ (wsX40 ++ ([] : List Cond))
theorem ic_inTruce_X4 : ∀ w ∈ wsX40, w ∈ vc_inTruce := fun _ h => List.mem_append_right _ (List.mem_append_left _ h)
set_option maxRecDepth 20000 in
theorem gc_inTruce_55_c_allQuarrels : GoodIn vc_inTruce (wsV RX9 55 RX4 yX4_allQuarrels vc_allQuarrels) := (goodIn_app (goodIn_r _ [1, 4, 5, 6] rfl (by decide +kernel)) (goodIn_app (goodIn_r vdc_allQuarrels [2, 3] rfl (by decide +kernel)) (goodIn_app (goodIn_sub ic_inTruce_X4 gdX4) goodIn_nil)))
set_option maxHeartbeats 4000000 in
set_option maxRecDepth 100000 in
theorem c_inTruce (l : Launch) (D : va_G) (kc : Nat → ClassId) (sz : Nat) (na : Nat → Nat) : Met l yX9_inTruce vc_inTruce ({ frames := 1, cells := 0, slots := 0, locals := 20 }) (va_Pc [.ref (na 1), .ref (na 2)] (wPre D kc [(na 1, .inr (4, [.ref (na 4), .ref (na 5), .ref (na 6), .ref (na 7), .ref (na 8), .ref (na 9), .ref (na 10), .ref (na 11), .ref (na 12), .ref (na 13), .ref (na 14), .ref (na 15), .int 0, .int 0, .int 0, .int 0, .int 0, .int 0, .int 5, .int 0])), (na 2, .inr (2, [.ref (na 16), .ref (na 17), .ref (na 18), .ref (na 19), .ref (na 20), .int 0, .int 0, .int 0, .int 0, .int 0, .int 0, .int 0, .int 0]))] sz)) (va_Qi (fun (r : Int32) (_ : Unit) => r = 0) (wPost D [(na 1, .inr (4, [.ref (na 4), .ref (na 5), .ref (na 6), .ref (na 7), .ref (na 8), .ref (na 9), .ref (na 10), .ref (na 11), .ref (na 12), .ref (na 13), .ref (na 14), .ref (na 15), .int 0, .int 0, .int 0, .int 0, .int 0, .int 0, .int 5, .int 0])), (na 2, .inr (2, [.ref (na 16), .ref (na 17), .ref (na 18), .ref (na 19), .ref (na 20), .int 0, .int 0, .int 0, .int 0, .int 0, .int 0, .int 0, .int 0]))] (va_A [(na 1, .inr (4, [.ref (na 4), .ref (na 5), .ref (na 6), .ref (na 7), .ref (na 8), .ref (na 9), .ref (na 10), .ref (na 11), .ref (na 12), .ref (na 13), .ref (na 14), .ref (na 15), .int 0, .int 0, .int 0, .int 0, .int 0, .int 0, .int 5, .int 0])), (na 2, .inr (2, [.ref (na 16), .ref (na 17), .ref (na 18), .ref (na 19), .ref (na 20), .int 0, .int 0, .int 0, .int 0, .int 0, .int 0, .int 0, .int 0]))] sz)) (va_A [(na 1, .inr (4, [.ref (na 4), .ref (na 5), .ref (na 6), .ref (na 7), .ref (na 8), .ref (na 9), .ref (na 10), .ref (na 11), .ref (na 12), .ref (na 13), .ref (na 14), .ref (na 15), .int 0, .int 0, .int 0, .int 0, .int 0, .int 0, .int 5, .int 0])), (na 2, .inr (2, [.ref (na 16), .ref (na 17), .ref (na 18), .ref (na 19), .ref (na 20), .int 0, .int 0, .int 0, .int 0, .int 0, .int 0, .int 0, .int 0]))] sz)) 0 0 (va_A [(na 1, .inr (4, [.ref (na 4), .ref (na 5), .ref (na 6), .ref (na 7), .ref (na 8), .ref (na 9), .ref (na 10), .ref (na 11), .ref (na 12), .ref (na 13), .ref (na 14), .ref (na 15), .int 0, .int 0, .int 0, .int 0, .int 0, .int 0, .int 5, .int 0])), (na 2, .inr (2, [.ref (na 16), .ref (na 17), .ref (na 18), .ref (na 19), .ref (na 20), .int 0, .int 0, .int 0, .int 0, .int 0, .int 0, .int 0, .int 0]))] sz) := by
  refine Met.ofW (cc := cX9_inTruce) (maxL := 4) (ret := (some .int)) (by decide) rfl ?_
  intro p e s m args below meth c s₁ B hml hv
  obtain ⟨rfl, hsz, hP, hE, hD0⟩ := hv
  have hx := B.exec
  have hb := B.bytes
  have hr := B.returns
  have hts := atoms_spec (ws := vc_inTruce) B.pre
  have hown : s.vm.findClass RX9 = some m.cls := findClass_of_methodNamed B.named
  have hlocks := B.notSynchronized
  subst hsz
  have hD := hD0.self (sz := s.heap.size)
  generalize hAe : va_A [(na 1, .inr (4, [.ref (na 4), .ref (na 5), .ref (na 6), .ref (na 7), .ref (na 8), .ref (na 9), .ref (na 10), .ref (na 11), .ref (na 12), .ref (na 13), .ref (na 14), .ref (na 15), .int 0, .int 0, .int 0, .int 0, .int 0, .int 0, .int 5, .int 0])), (na 2, .inr (2, [.ref (na 16), .ref (na 17), .ref (na 18), .ref (na 19), .ref (na 20), .int 0, .int 0, .int 0, .int 0, .int 0, .int 0, .int 0, .int 0]))] s.heap.size = A at hD ⊢
  have hA : ∀ q : Nat, s.heap.size ≤ q → A q := fun q h => by rw [← hAe]; exact Or.inr h
  have hS : va_S A s.heap s.heap [] := va_S.rf
  have hK := hE.1
  have hP : va_P D vwCl [(na 1, .inr (4, [.ref (na 4), .ref (na 5), .ref (na 6), .ref (na 7), .ref (na 8), .ref (na 9), .ref (na 10), .ref (na 11), .ref (na 12), .ref (na 13), .ref (na 14), .ref (na 15), .int 0, .int 0, .int 0, .int 0, .int 0, .int 0, .int 5, .int 0])), (na 2, .inr (2, [.ref (na 16), .ref (na 17), .ref (na 18), .ref (na 19), .ref (na 20), .int 0, .int 0, .int 0, .int 0, .int 0, .int 0, .int 0, .int 0]))] s.heap := hP
  have hl := lv_entry ([.ref (na 1), .ref (na 2)]) (n := 4) (Nat.le_of_ble_eq_true rfl)
  rw [lg_entry_eq]
  generalize (lg_sl ([.ref (na 1), .ref (na 2)]) ++ List.replicate (4 - (lg_sl ([.ref (na 1), .ref (na 2)])).length) Slot.unset).toArray = ls at hl ⊢
  have hl : lv_has ls 4 [(0, .ref (na 1)), (1, .ref (na 2))] := hl
  refine lv_aload_n hx hb dX9_inTruce_0 rfl (lv_at hl 0 rfl) ?_
  have hPc := hP.sub (ws' := [(na 1, .inr (4, [.ref (na 4), .ref (na 5), .ref (na 6), .ref (na 7), .ref (na 8), .ref (na 9), .ref (na 10), .ref (na 11), .ref (na 12), .ref (na 13), .ref (na 14), .ref (na 15), .int 0, .int 0, .int 0, .int 0, .int 0, .int 0, .int 5, .int 0]))]) [0] rfl
  have hDc := hD.sub (ws' := [(na 1, .inr (4, [.ref (na 4), .ref (na 5), .ref (na 6), .ref (na 7), .ref (na 8), .ref (na 9), .ref (na 10), .ref (na 11), .ref (na 12), .ref (na 13), .ref (na 14), .ref (na 15), .int 0, .int 0, .int 0, .int 0, .int 0, .int 0, .int 5, .int 0]))]) [0] (by decide) rfl
  have hFc := va_free (wc := [(na 1, .inr (4, [.ref (na 4), .ref (na 5), .ref (na 6), .ref (na 7), .ref (na 8), .ref (na 9), .ref (na 10), .ref (na 11), .ref (na 12), .ref (na 13), .ref (na 14), .ref (na 15), .int 0, .int 0, .int 0, .int 0, .int 0, .int 0, .int 5, .int 0]))]) hD hS hA [0] rfl
  refine va_calli (va_runV (As := []) (rest := []) ⟨hx, hb, hml, hown, hts⟩ (c_allQuarrels l D kc s.heap.size na) (cwV 0 hts gc_inTruce_55_c_allQuarrels rfl rfl rfl (by decide +kernel) ⟨Nat.le_of_ble_eq_true rfl, Nat.le_of_ble_eq_true rfl⟩) (preV_ok hPc hDc hE (ci := 4) (q0 := 0) rfl rfl) rfl rfl hl.1 rfl (lv_room (Nat.le_of_ble_eq_true rfl)) dX9_inTruce_1 ⟨Nat.le_of_ble_eq_true rfl, Nat.le_of_ble_eq_true rfl⟩) hS (fun q _ h => hFc q h) hFc (fun r_1 u9 t9 H locs ht hvm hw hB hz1 hk1 hS => ?_)
  obtain ⟨hP1, hD1⟩ := hB
  rw [ht] at hP1
  obtain ⟨hP, hD⟩ := va_join (wr := [(na 2, .inr (2, [.ref (na 16), .ref (na 17), .ref (na 18), .ref (na 19), .ref (na 20), .int 0, .int 0, .int 0, .int 0, .int 0, .int 0, .int 0, .int 0]))]) (w1 := [(na 1, .inr (4, [.ref (na 4), .ref (na 5), .ref (na 6), .ref (na 7), .ref (na 8), .ref (na 9), .ref (na 10), .ref (na 11), .ref (na 12), .ref (na 13), .ref (na 14), .ref (na 15), .int 0, .int 0, .int 0, .int 0, .int 0, .int 0, .int 5, .int 0]))]) hP hD [0] [1] rfl rfl (by decide) (by decide) hk1 hFc hP1 hD1
  have hP : va_P D vwCl [(na 2, .inr (2, [.ref (na 16), .ref (na 17), .ref (na 18), .ref (na 19), .ref (na 20), .int 0, .int 0, .int 0, .int 0, .int 0, .int 0, .int 0, .int 0])), (na 1, .inr (4, [.ref (na 4), .ref (na 5), .ref (na 6), .ref (na 7), .ref (na 8), .ref (na 9), .ref (na 10), .ref (na 11), .ref (na 12), .ref (na 13), .ref (na 14), .ref (na 15), .int 0, .int 0, .int 0, .int 0, .int 0, .int 0, .int 5, .int 0]))] H := hP
  have hD : va_D A [(na 2, .inr (2, [.ref (na 16), .ref (na 17), .ref (na 18), .ref (na 19), .ref (na 20), .int 0, .int 0, .int 0, .int 0, .int 0, .int 0, .int 0, .int 0])), (na 1, .inr (4, [.ref (na 4), .ref (na 5), .ref (na 6), .ref (na 7), .ref (na 8), .ref (na 9), .ref (na 10), .ref (na 11), .ref (na 12), .ref (na 13), .ref (na 14), .ref (na 15), .int 0, .int 0, .int 0, .int 0, .int 0, .int 0, .int 5, .int 0]))] := hD
  subst hw
  refine lv_istore_n (lv' := [(2, .int 0), (0, .ref (na 1)), (1, .ref (na 2))]) hx hb dX9_inTruce_4 rfl hl (by decide) rfl (fun ls hl => ?_)
  refine lv_iconst (v := 0) hx hb dX9_inTruce_5 (by decide) ?_
  refine lv_istore_n (lv' := [(3, .int 0), (2, .int 0), (0, .ref (na 1)), (1, .ref (na 2))]) hx hb dX9_inTruce_6 rfl hl (by decide) rfl (fun ls hl => ?_)
  refine lv_iload_n hx hb dX9_inTruce_7 rfl (lv_at hl 0 rfl) ?_
  refine lv_aload_n hx hb dX9_inTruce_8 rfl (lv_at hl 2 rfl) ?_
  refine va_getN (D := D) (ci := 4) (v := .int 0) (C := RX4) (T := TX4) (N := 20) hx hb hts ic_inTruce_X4 hown hK hP 1 rfl rfl 13 (by decide) (hE.nw 34 rfl) (fun _ h9 => h9) rfl dX9_inTruce_9 ?_
  refine lv_icmp_ge (tgt := 43) hx hb dX9_inTruce_12 (by decide) (fun _ => ?_) (fun h => absurd (by decide) h)
  refine lv_iload_n hx hb dX9_inTruce_43 rfl (lv_at hl 1 rfl) ?_
  have hP9 := hP.sub (ws' := [(na 1, .inr (4, [.ref (na 4), .ref (na 5), .ref (na 6), .ref (na 7), .ref (na 8), .ref (na 9), .ref (na 10), .ref (na 11), .ref (na 12), .ref (na 13), .ref (na 14), .ref (na 15), .int 0, .int 0, .int 0, .int 0, .int 0, .int 0, .int 5, .int 0])), (na 2, .inr (2, [.ref (na 16), .ref (na 17), .ref (na 18), .ref (na 19), .ref (na 20), .int 0, .int 0, .int 0, .int 0, .int 0, .int 0, .int 0, .int 0]))]) [1, 0] rfl
  have hD9 := hD.sub (ws' := [(na 1, .inr (4, [.ref (na 4), .ref (na 5), .ref (na 6), .ref (na 7), .ref (na 8), .ref (na 9), .ref (na 10), .ref (na 11), .ref (na 12), .ref (na 13), .ref (na 14), .ref (na 15), .int 0, .int 0, .int 0, .int 0, .int 0, .int 0, .int 5, .int 0])), (na 2, .inr (2, [.ref (na 16), .ref (na 17), .ref (na 18), .ref (na 19), .ref (na 20), .int 0, .int 0, .int 0, .int 0, .int 0, .int 0, .int 0, .int 0]))]) [1, 0] (by decide) rfl
  exact W.iret (v := 0) hx hb hr (fun t9 ht hW => ⟨⟨0, (), rfl, rfl, ⟨by rw [ht]; exact hP9, hD9⟩⟩, hS.F ht⟩) hS.2.2 dX9_inTruce_44
theorem dX9_bestFor_0 : decode cX9_bestFor 0 = .ok (.iconst (-1), 1) := by decide +kernel
theorem dX9_bestFor_1 : decode cX9_bestFor 1 = .ok (.istore_n 3, 1) := by decide +kernel
theorem dX9_bestFor_2 : decode cX9_bestFor 2 = .ok (.iconst 0, 1) := by decide +kernel
theorem dX9_bestFor_3 : decode cX9_bestFor 3 = .ok (.istore 4, 2) := by decide +kernel
theorem dX9_bestFor_5 : decode cX9_bestFor 5 = .ok (.iconst 0, 1) := by decide +kernel
theorem dX9_bestFor_6 : decode cX9_bestFor 6 = .ok (.istore 5, 2) := by decide +kernel
theorem dX9_bestFor_8 : decode cX9_bestFor 8 = .ok (.iload 5, 2) := by decide +kernel
theorem dX9_bestFor_10 : decode cX9_bestFor 10 = .ok (.aload_n 0, 1) := by decide +kernel
theorem dX9_bestFor_11 : decode cX9_bestFor 11 = .ok (.getfield 59, 3) := by decide +kernel
theorem dX9_bestFor_14 : decode cX9_bestFor 14 = .ok (.if_icmp .ge 33, 3) := by decide +kernel
theorem dX9_bestFor_47 : decode cX9_bestFor 47 = .ok (.iload_n 3, 1) := by decide +kernel
theorem dX9_bestFor_48 : decode cX9_bestFor 48 = .ok (.ireturn, 1) := by decide +kernel
def vdc_bestFor : List Cond := [.code yX9_bestFor cX9_bestFor 7 (some .int)]
def vc_bestFor : List Cond := vdc_bestFor ++ (wsX40 ++ ([] : List Cond))
theorem ic_bestFor_X4 : ∀ w ∈ wsX40, w ∈ vc_bestFor := fun _ h => List.mem_append_right _ (List.mem_append_left _ h)
set_option maxHeartbeats 4000000 in
set_option maxRecDepth 100000 in
theorem c_bestFor (l : Launch) (D : va_G) (kc : Nat → ClassId) (sz : Nat) (na : Nat → Nat) (g : Int32) : Met l yX9_bestFor vc_bestFor ({ frames := 0, cells := 0, slots := 0, locals := 0 }) (va_Pc [.ref (na 1), .ref (na 2), .int g] (wPre D kc [(na 1, .inr (4, [.ref (na 4), .ref (na 5), .ref (na 6), .ref (na 7), .ref (na 8), .ref (na 9), .ref (na 10), .ref (na 11), .ref (na 12), .ref (na 13), .ref (na 14), .ref (na 15), .int 0, .int 0, .int 0, .int 0, .int 0, .int 0, .int 5, .int 0])), (na 2, .inr (2, [.ref (na 16), .ref (na 17), .ref (na 18), .ref (na 19), .ref (na 20), .int 0, .int 0, .int 0, .int 0, .int 0, .int 0, .int 0, .int 0]))] sz)) (va_Qi (fun (r : Int32) (_ : Unit) => r = (-1)) (wPost D [(na 1, .inr (4, [.ref (na 4), .ref (na 5), .ref (na 6), .ref (na 7), .ref (na 8), .ref (na 9), .ref (na 10), .ref (na 11), .ref (na 12), .ref (na 13), .ref (na 14), .ref (na 15), .int 0, .int 0, .int 0, .int 0, .int 0, .int 0, .int 5, .int 0])), (na 2, .inr (2, [.ref (na 16), .ref (na 17), .ref (na 18), .ref (na 19), .ref (na 20), .int 0, .int 0, .int 0, .int 0, .int 0, .int 0, .int 0, .int 0]))] (va_A [(na 1, .inr (4, [.ref (na 4), .ref (na 5), .ref (na 6), .ref (na 7), .ref (na 8), .ref (na 9), .ref (na 10), .ref (na 11), .ref (na 12), .ref (na 13), .ref (na 14), .ref (na 15), .int 0, .int 0, .int 0, .int 0, .int 0, .int 0, .int 5, .int 0])), (na 2, .inr (2, [.ref (na 16), .ref (na 17), .ref (na 18), .ref (na 19), .ref (na 20), .int 0, .int 0, .int 0, .int 0, .int 0, .int 0, .int 0, .int 0]))] sz)) (va_A [(na 1, .inr (4, [.ref (na 4), .ref (na 5), .ref (na 6), .ref (na 7), .ref (na 8), .ref (na 9), .ref (na 10), .ref (na 11), .ref (na 12), .ref (na 13), .ref (na 14), .ref (na 15), .int 0, .int 0, .int 0, .int 0, .int 0, .int 0, .int 5, .int 0])), (na 2, .inr (2, [.ref (na 16), .ref (na 17), .ref (na 18), .ref (na 19), .ref (na 20), .int 0, .int 0, .int 0, .int 0, .int 0, .int 0, .int 0, .int 0]))] sz)) 0 0 (va_A [(na 1, .inr (4, [.ref (na 4), .ref (na 5), .ref (na 6), .ref (na 7), .ref (na 8), .ref (na 9), .ref (na 10), .ref (na 11), .ref (na 12), .ref (na 13), .ref (na 14), .ref (na 15), .int 0, .int 0, .int 0, .int 0, .int 0, .int 0, .int 5, .int 0])), (na 2, .inr (2, [.ref (na 16), .ref (na 17), .ref (na 18), .ref (na 19), .ref (na 20), .int 0, .int 0, .int 0, .int 0, .int 0, .int 0, .int 0, .int 0]))] sz) := by
  refine Met.ofW (cc := cX9_bestFor) (maxL := 7) (ret := (some .int)) (by decide) rfl ?_
  intro p e s m args below meth c s₁ B hml hv
  obtain ⟨rfl, hsz, hP, hE, hD0⟩ := hv
  have hx := B.exec
  have hb := B.bytes
  have hr := B.returns
  have hts := atoms_spec (ws := vc_bestFor) B.pre
  have hown : s.vm.findClass RX9 = some m.cls := findClass_of_methodNamed B.named
  have hlocks := B.notSynchronized
  subst hsz
  have hD := hD0.self (sz := s.heap.size)
  generalize hAe : va_A [(na 1, .inr (4, [.ref (na 4), .ref (na 5), .ref (na 6), .ref (na 7), .ref (na 8), .ref (na 9), .ref (na 10), .ref (na 11), .ref (na 12), .ref (na 13), .ref (na 14), .ref (na 15), .int 0, .int 0, .int 0, .int 0, .int 0, .int 0, .int 5, .int 0])), (na 2, .inr (2, [.ref (na 16), .ref (na 17), .ref (na 18), .ref (na 19), .ref (na 20), .int 0, .int 0, .int 0, .int 0, .int 0, .int 0, .int 0, .int 0]))] s.heap.size = A at hD ⊢
  have hA : ∀ q : Nat, s.heap.size ≤ q → A q := fun q h => by rw [← hAe]; exact Or.inr h
  have hS : va_S A s.heap s.heap [] := va_S.rf
  have hK := hE.1
  have hP : va_P D vwCl [(na 1, .inr (4, [.ref (na 4), .ref (na 5), .ref (na 6), .ref (na 7), .ref (na 8), .ref (na 9), .ref (na 10), .ref (na 11), .ref (na 12), .ref (na 13), .ref (na 14), .ref (na 15), .int 0, .int 0, .int 0, .int 0, .int 0, .int 0, .int 5, .int 0])), (na 2, .inr (2, [.ref (na 16), .ref (na 17), .ref (na 18), .ref (na 19), .ref (na 20), .int 0, .int 0, .int 0, .int 0, .int 0, .int 0, .int 0, .int 0]))] s.heap := hP
  have hl := lv_entry ([.ref (na 1), .ref (na 2), .int g]) (n := 7) (Nat.le_of_ble_eq_true rfl)
  rw [lg_entry_eq]
  generalize (lg_sl ([.ref (na 1), .ref (na 2), .int g]) ++ List.replicate (7 - (lg_sl ([.ref (na 1), .ref (na 2), .int g])).length) Slot.unset).toArray = ls at hl ⊢
  have hl : lv_has ls 7 [(0, .ref (na 1)), (1, .ref (na 2)), (2, .int g)] := hl
  refine lv_iconst (v := (-1)) hx hb dX9_bestFor_0 (by decide) ?_
  refine lv_istore_n (lv' := [(3, .int (-1)), (0, .ref (na 1)), (1, .ref (na 2)), (2, .int g)]) hx hb dX9_bestFor_1 rfl hl (by decide) rfl (fun ls hl => ?_)
  refine lv_iconst (v := 0) hx hb dX9_bestFor_2 (by decide) ?_
  refine lv_istore (lv' := [(4, .int 0), (3, .int (-1)), (0, .ref (na 1)), (1, .ref (na 2)), (2, .int g)]) hx hb dX9_bestFor_3 hl (by decide) rfl (fun ls hl => ?_)
  refine lv_iconst (v := 0) hx hb dX9_bestFor_5 (by decide) ?_
  refine lv_istore (lv' := [(5, .int 0), (4, .int 0), (3, .int (-1)), (0, .ref (na 1)), (1, .ref (na 2)), (2, .int g)]) hx hb dX9_bestFor_6 hl (by decide) rfl (fun ls hl => ?_)
  refine lv_iload hx hb dX9_bestFor_8 (lv_at hl 0 rfl) ?_
  refine lv_aload_n hx hb dX9_bestFor_10 rfl (lv_at hl 3 rfl) ?_
  refine va_getN (D := D) (ci := 4) (v := .int 0) (C := RX4) (T := TX4) (N := 20) hx hb hts ic_bestFor_X4 hown hK hP 0 rfl rfl 13 (by decide) (hE.nw 34 rfl) (fun _ h9 => h9) rfl dX9_bestFor_11 ?_
  refine lv_icmp_ge (tgt := 47) hx hb dX9_bestFor_14 (by decide) (fun _ => ?_) (fun h => absurd (by decide) h)
  refine lv_iload_n hx hb dX9_bestFor_47 rfl (lv_at hl 2 rfl) ?_
  have hP9 := hP.sub (ws' := [(na 1, .inr (4, [.ref (na 4), .ref (na 5), .ref (na 6), .ref (na 7), .ref (na 8), .ref (na 9), .ref (na 10), .ref (na 11), .ref (na 12), .ref (na 13), .ref (na 14), .ref (na 15), .int 0, .int 0, .int 0, .int 0, .int 0, .int 0, .int 5, .int 0])), (na 2, .inr (2, [.ref (na 16), .ref (na 17), .ref (na 18), .ref (na 19), .ref (na 20), .int 0, .int 0, .int 0, .int 0, .int 0, .int 0, .int 0, .int 0]))]) [0, 1] rfl
  have hD9 := hD.sub (ws' := [(na 1, .inr (4, [.ref (na 4), .ref (na 5), .ref (na 6), .ref (na 7), .ref (na 8), .ref (na 9), .ref (na 10), .ref (na 11), .ref (na 12), .ref (na 13), .ref (na 14), .ref (na 15), .int 0, .int 0, .int 0, .int 0, .int 0, .int 0, .int 5, .int 0])), (na 2, .inr (2, [.ref (na 16), .ref (na 17), .ref (na 18), .ref (na 19), .ref (na 20), .int 0, .int 0, .int 0, .int 0, .int 0, .int 0, .int 0, .int 0]))]) [0, 1] (by decide) rfl
  exact W.iret (v := (-1)) hx hb hr (fun t9 ht hW => ⟨⟨(-1), (), rfl, rfl, ⟨by rw [ht]; exact hP9, hD9⟩⟩, hS.F ht⟩) hS.2.2 dX9_bestFor_48
theorem dX2_letRain_0 : decode cX2_letRain 0 = .ok (.iconst 0, 1) := by decide +kernel
theorem dX2_letRain_1 : decode cX2_letRain 1 = .ok (.istore_n 2, 1) := by decide +kernel
theorem dX2_letRain_2 : decode cX2_letRain 2 = .ok (.iconst 0, 1) := by decide +kernel
theorem dX2_letRain_3 : decode cX2_letRain 3 = .ok (.istore_n 3, 1) := by decide +kernel
theorem dX2_letRain_4 : decode cX2_letRain 4 = .ok (.iload_n 3, 1) := by decide +kernel
theorem dX2_letRain_5 : decode cX2_letRain 5 = .ok (.aload_n 1, 1) := by decide +kernel
theorem dX2_letRain_6 : decode cX2_letRain 6 = .ok (.getfield 65, 3) := by decide +kernel
theorem dX2_letRain_9 : decode cX2_letRain 9 = .ok (.if_icmp .ge 54, 3) := by decide +kernel
theorem dX2_letRain_63 : decode cX2_letRain 63 = .ok (.aload_n 0, 1) := by decide +kernel
theorem dX2_letRain_64 : decode cX2_letRain 64 = .ok (.dup, 1) := by decide +kernel
theorem dX2_letRain_65 : decode cX2_letRain 65 = .ok (.getfield 48, 3) := by decide +kernel
theorem dX2_letRain_68 : decode cX2_letRain 68 = .ok (.iload_n 2, 1) := by decide +kernel
theorem dX2_letRain_69 : decode cX2_letRain 69 = .ok (.iadd, 1) := by decide +kernel
theorem dX2_letRain_70 : decode cX2_letRain 70 = .ok (.putfield 48, 3) := by decide +kernel
theorem dX2_letRain_73 : decode cX2_letRain 73 = .ok (.aload_n 0, 1) := by decide +kernel
theorem dX2_letRain_74 : decode cX2_letRain 74 = .ok (.iconst 1, 1) := by decide +kernel
theorem dX2_letRain_75 : decode cX2_letRain 75 = .ok (.putfield 38, 3) := by decide +kernel
theorem dX2_letRain_78 : decode cX2_letRain 78 = .ok (.iload_n 2, 1) := by decide +kernel
theorem dX2_letRain_79 : decode cX2_letRain 79 = .ok (.ireturn, 1) := by decide +kernel
def vdc_letRain : List Cond := [.code yX2_letRain cX2_letRain 5 (some .int), .fieldLink RX2 48 "SaltStreet$Ground" "washed" "I", .fieldLink RX2 38 "SaltStreet$Ground" "rained" "Z"]
def vc_letRain : List Cond := vdc_letRain ++ (wsX40 ++ (wsX20 ++ ([] : List Cond)))
theorem ic_letRain_X4 : ∀ w ∈ wsX40, w ∈ vc_letRain := fun _ h => List.mem_append_right _ (List.mem_append_left _ h)
theorem ic_letRain_X2 : ∀ w ∈ wsX20, w ∈ vc_letRain := fun _ h => List.mem_append_right _ (List.mem_append_right _ (List.mem_append_left _ h))
set_option maxHeartbeats 4000000 in
set_option maxRecDepth 100000 in
theorem c_letRain (l : Launch) (D : va_G) (kc : Nat → ClassId) (sz : Nat) (na : Nat → Nat) : Met l yX2_letRain vc_letRain ({ frames := 0, cells := 0, slots := 0, locals := 0 }) (va_Pc [.ref (na 2), .ref (na 1)] (wPre D kc [(na 2, .inr (2, [.ref (na 16), .ref (na 17), .ref (na 18), .ref (na 19), .ref (na 20), .int 0, .int 0, .int 0, .int 0, .int 0, .int 0, .int 0, .int 0])), (na 1, .inr (4, [.ref (na 4), .ref (na 5), .ref (na 6), .ref (na 7), .ref (na 8), .ref (na 9), .ref (na 10), .ref (na 11), .ref (na 12), .ref (na 13), .ref (na 14), .ref (na 15), .int 0, .int 0, .int 0, .int 0, .int 0, .int 0, .int 5, .int 0]))] sz)) (va_Qi (fun (r : Int32) (_ : Unit) => r = 0) wAny (va_A [(na 2, .inr (2, [.ref (na 16), .ref (na 17), .ref (na 18), .ref (na 19), .ref (na 20), .int 0, .int 0, .int 0, .int 0, .int 0, .int 0, .int 0, .int 0])), (na 1, .inr (4, [.ref (na 4), .ref (na 5), .ref (na 6), .ref (na 7), .ref (na 8), .ref (na 9), .ref (na 10), .ref (na 11), .ref (na 12), .ref (na 13), .ref (na 14), .ref (na 15), .int 0, .int 0, .int 0, .int 0, .int 0, .int 0, .int 5, .int 0]))] sz)) 0 0 (va_A [(na 2, .inr (2, [.ref (na 16), .ref (na 17), .ref (na 18), .ref (na 19), .ref (na 20), .int 0, .int 0, .int 0, .int 0, .int 0, .int 0, .int 0, .int 0])), (na 1, .inr (4, [.ref (na 4), .ref (na 5), .ref (na 6), .ref (na 7), .ref (na 8), .ref (na 9), .ref (na 10), .ref (na 11), .ref (na 12), .ref (na 13), .ref (na 14), .ref (na 15), .int 0, .int 0, .int 0, .int 0, .int 0, .int 0, .int 5, .int 0]))] sz) := by
  refine Met.ofW (cc := cX2_letRain) (maxL := 5) (ret := (some .int)) (by decide) rfl ?_
  intro p e s m args below meth c s₁ B hml hv
  obtain ⟨rfl, hsz, hP, hE, hD0⟩ := hv
  have hx := B.exec
  have hb := B.bytes
  have hr := B.returns
  have hts := atoms_spec (ws := vc_letRain) B.pre
  have hown : s.vm.findClass RX2 = some m.cls := findClass_of_methodNamed B.named
  have hlocks := B.notSynchronized
  subst hsz
  have hD := hD0.self (sz := s.heap.size)
  generalize hAe : va_A [(na 2, .inr (2, [.ref (na 16), .ref (na 17), .ref (na 18), .ref (na 19), .ref (na 20), .int 0, .int 0, .int 0, .int 0, .int 0, .int 0, .int 0, .int 0])), (na 1, .inr (4, [.ref (na 4), .ref (na 5), .ref (na 6), .ref (na 7), .ref (na 8), .ref (na 9), .ref (na 10), .ref (na 11), .ref (na 12), .ref (na 13), .ref (na 14), .ref (na 15), .int 0, .int 0, .int 0, .int 0, .int 0, .int 0, .int 5, .int 0]))] s.heap.size = A at hD ⊢
  have hA : ∀ q : Nat, s.heap.size ≤ q → A q := fun q h => by rw [← hAe]; exact Or.inr h
  have hS : va_S A s.heap s.heap [] := va_S.rf
  have hK := hE.1
  have hP : va_P D vwCl [(na 2, .inr (2, [.ref (na 16), .ref (na 17), .ref (na 18), .ref (na 19), .ref (na 20), .int 0, .int 0, .int 0, .int 0, .int 0, .int 0, .int 0, .int 0])), (na 1, .inr (4, [.ref (na 4), .ref (na 5), .ref (na 6), .ref (na 7), .ref (na 8), .ref (na 9), .ref (na 10), .ref (na 11), .ref (na 12), .ref (na 13), .ref (na 14), .ref (na 15), .int 0, .int 0, .int 0, .int 0, .int 0, .int 0, .int 5, .int 0]))] s.heap := hP
  have hl := lv_entry ([.ref (na 2), .ref (na 1)]) (n := 5) (Nat.le_of_ble_eq_true rfl)
  rw [lg_entry_eq]
  generalize (lg_sl ([.ref (na 2), .ref (na 1)]) ++ List.replicate (5 - (lg_sl ([.ref (na 2), .ref (na 1)])).length) Slot.unset).toArray = ls at hl ⊢
  have hl : lv_has ls 5 [(0, .ref (na 2)), (1, .ref (na 1))] := hl
  refine lv_iconst (v := 0) hx hb dX2_letRain_0 (by decide) ?_
  refine lv_istore_n (lv' := [(2, .int 0), (0, .ref (na 2)), (1, .ref (na 1))]) hx hb dX2_letRain_1 rfl hl (by decide) rfl (fun ls hl => ?_)
  refine lv_iconst (v := 0) hx hb dX2_letRain_2 (by decide) ?_
  refine lv_istore_n (lv' := [(3, .int 0), (2, .int 0), (0, .ref (na 2)), (1, .ref (na 1))]) hx hb dX2_letRain_3 rfl hl (by decide) rfl (fun ls hl => ?_)
  refine lv_iload_n hx hb dX2_letRain_4 rfl (lv_at hl 0 rfl) ?_
  refine lv_aload_n hx hb dX2_letRain_5 rfl (lv_at hl 3 rfl) ?_
  refine va_getN (D := D) (ci := 4) (v := .int 0) (C := RX4) (T := TX4) (N := 20) hx hb hts ic_letRain_X4 hown hK hP 1 rfl rfl 13 (by decide) (hE.nw 35 rfl) (fun _ h9 => h9) rfl dX2_letRain_6 ?_
  refine lv_icmp_ge (tgt := 63) hx hb dX2_letRain_9 (by decide) (fun _ => ?_) (fun h => absurd (by decide) h)
  refine lv_aload_n hx hb dX2_letRain_63 rfl (lv_at hl 2 rfl) ?_
  refine lv_dup hx hb dX2_letRain_64 rfl ?_
  refine va_get (D := D) (ci := 2) (v := .int 0) (C := RX2) (T := TX2) (N := 13) hx hb hts ic_letRain_X2 hown hK hP 0 rfl rfl 10 (by decide) (hts (.fieldLink RX2 48 "SaltStreet$Ground" "washed" "I") (List.mem_of_getElem? (i := 1) rfl)) (fun _ h9 => h9) rfl dX2_letRain_65 ?_
  refine lv_iload_n hx hb dX2_letRain_68 rfl (lv_at hl 1 rfl) ?_
  refine lv_iadd hx hb dX2_letRain_69 ?_
  refine lv_ci (y := 0) (by decide) ?_
  refine va_put (D := D) (ci := 2) (v := .int 0) (ty := .int) (C := RX2) (T := TX2) (N := 13) hx hb hts ic_letRain_X2 tyX2 tyX2_ok nmX2 hown hK hP hD hS 0 rfl rfl 10 (by decide) (hts (.fieldLink RX2 48 "SaltStreet$Ground" "washed" "I") (List.mem_of_getElem? (i := 1) rfl)) (fun _ h9 => h9) rfl (by decide +kernel) rfl rfl (Nat.le_of_ble_eq_true rfl) dX2_letRain_70 (fun H locs hP hD hS => ?_)
  have hP : va_P D vwCl [(na 2, .inr (2, [.ref (na 16), .ref (na 17), .ref (na 18), .ref (na 19), .ref (na 20), .int 0, .int 0, .int 0, .int 0, .int 0, .int 0, .int 0, .int 0])), (na 1, .inr (4, [.ref (na 4), .ref (na 5), .ref (na 6), .ref (na 7), .ref (na 8), .ref (na 9), .ref (na 10), .ref (na 11), .ref (na 12), .ref (na 13), .ref (na 14), .ref (na 15), .int 0, .int 0, .int 0, .int 0, .int 0, .int 0, .int 5, .int 0]))] H := hP
  have hD : va_D A [(na 2, .inr (2, [.ref (na 16), .ref (na 17), .ref (na 18), .ref (na 19), .ref (na 20), .int 0, .int 0, .int 0, .int 0, .int 0, .int 0, .int 0, .int 0])), (na 1, .inr (4, [.ref (na 4), .ref (na 5), .ref (na 6), .ref (na 7), .ref (na 8), .ref (na 9), .ref (na 10), .ref (na 11), .ref (na 12), .ref (na 13), .ref (na 14), .ref (na 15), .int 0, .int 0, .int 0, .int 0, .int 0, .int 0, .int 5, .int 0]))] := hD
  refine lv_aload_n hx hb dX2_letRain_73 rfl (lv_at hl 2 rfl) ?_
  refine lv_iconst (v := 1) hx hb dX2_letRain_74 (by decide) ?_
  refine va_put (D := D) (ci := 2) (v := .int 1) (ty := .boolean) (C := RX2) (T := TX2) (N := 13) hx hb hts ic_letRain_X2 tyX2 tyX2_ok nmX2 hown hK hP hD hS 0 rfl rfl 7 (by decide) (hts (.fieldLink RX2 38 "SaltStreet$Ground" "rained" "Z") (List.mem_of_getElem? (i := 2) rfl)) (fun _ h9 => h9) rfl (by decide +kernel) rfl rfl (Nat.le_of_ble_eq_true rfl) dX2_letRain_75 (fun H locs hP hD hS => ?_)
  have hP : va_P D vwCl [(na 2, .inr (2, [.ref (na 16), .ref (na 17), .ref (na 18), .ref (na 19), .ref (na 20), .int 0, .int 0, .int 1, .int 0, .int 0, .int 0, .int 0, .int 0])), (na 1, .inr (4, [.ref (na 4), .ref (na 5), .ref (na 6), .ref (na 7), .ref (na 8), .ref (na 9), .ref (na 10), .ref (na 11), .ref (na 12), .ref (na 13), .ref (na 14), .ref (na 15), .int 0, .int 0, .int 0, .int 0, .int 0, .int 0, .int 5, .int 0]))] H := hP
  have hD : va_D A [(na 2, .inr (2, [.ref (na 16), .ref (na 17), .ref (na 18), .ref (na 19), .ref (na 20), .int 0, .int 0, .int 1, .int 0, .int 0, .int 0, .int 0, .int 0])), (na 1, .inr (4, [.ref (na 4), .ref (na 5), .ref (na 6), .ref (na 7), .ref (na 8), .ref (na 9), .ref (na 10), .ref (na 11), .ref (na 12), .ref (na 13), .ref (na 14), .ref (na 15), .int 0, .int 0, .int 0, .int 0, .int 0, .int 0, .int 5, .int 0]))] := hD
  refine lv_iload_n hx hb dX2_letRain_78 rfl (lv_at hl 1 rfl) ?_
  exact W.iret (v := 0) hx hb hr (fun t9 ht hW => ⟨⟨0, (), rfl, rfl, trivial⟩, hS.F ht⟩) hS.2.2 dX2_letRain_79
theorem dX2_letSnow_0 : decode cX2_letSnow 0 = .ok (.iconst 0, 1) := by decide +kernel
theorem dX2_letSnow_1 : decode cX2_letSnow 1 = .ok (.istore_n 3, 1) := by decide +kernel
theorem dX2_letSnow_2 : decode cX2_letSnow 2 = .ok (.iload_n 3, 1) := by decide +kernel
theorem dX2_letSnow_3 : decode cX2_letSnow 3 = .ok (.aload_n 1, 1) := by decide +kernel
theorem dX2_letSnow_4 : decode cX2_letSnow 4 = .ok (.getfield 65, 3) := by decide +kernel
theorem dX2_letSnow_7 : decode cX2_letSnow 7 = .ok (.if_icmp .ge 36, 3) := by decide +kernel
theorem dX2_letSnow_43 : decode cX2_letSnow 43 = .ok (.return_, 1) := by decide +kernel
def vdc_letSnow : List Cond := [.code yX2_letSnow cX2_letSnow 4 none]
def vc_letSnow : List Cond := vdc_letSnow ++ (wsX40 ++ ([] : List Cond))
theorem ic_letSnow_X4 : ∀ w ∈ wsX40, w ∈ vc_letSnow := fun _ h => List.mem_append_right _ (List.mem_append_left _ h)
set_option maxHeartbeats 4000000 in
set_option maxRecDepth 100000 in
theorem c_letSnow (l : Launch) (D : va_G) (kc : Nat → ClassId) (sz : Nat) (na : Nat → Nat) (g : Int32) : Met l yX2_letSnow vc_letSnow ({ frames := 0, cells := 0, slots := 0, locals := 0 }) (va_Pc [.ref (na 2), .ref (na 1), .int g] (wPre D kc [(na 2, .inr (2, [.ref (na 16), .ref (na 17), .ref (na 18), .ref (na 19), .ref (na 20), .int 0, .int 0, .int 0, .int 0, .int 0, .int 0, .int 0, .int 0])), (na 1, .inr (4, [.ref (na 4), .ref (na 5), .ref (na 6), .ref (na 7), .ref (na 8), .ref (na 9), .ref (na 10), .ref (na 11), .ref (na 12), .ref (na 13), .ref (na 14), .ref (na 15), .int 0, .int 0, .int 0, .int 0, .int 0, .int 0, .int 5, .int 0]))] sz)) (va_Qv (fun (_ : Unit) => True) wAny (va_A [(na 2, .inr (2, [.ref (na 16), .ref (na 17), .ref (na 18), .ref (na 19), .ref (na 20), .int 0, .int 0, .int 0, .int 0, .int 0, .int 0, .int 0, .int 0])), (na 1, .inr (4, [.ref (na 4), .ref (na 5), .ref (na 6), .ref (na 7), .ref (na 8), .ref (na 9), .ref (na 10), .ref (na 11), .ref (na 12), .ref (na 13), .ref (na 14), .ref (na 15), .int 0, .int 0, .int 0, .int 0, .int 0, .int 0, .int 5, .int 0]))] sz)) 0 0 (va_A [(na 2, .inr (2, [.ref (na 16), .ref (na 17), .ref (na 18), .ref (na 19), .ref (na 20), .int 0, .int 0, .int 0, .int 0, .int 0, .int 0, .int 0, .int 0])), (na 1, .inr (4, [.ref (na 4), .ref (na 5), .ref (na 6), .ref (na 7), .ref (na 8), .ref (na 9), .ref (na 10), .ref (na 11), .ref (na 12), .ref (na 13), .ref (na 14), .ref (na 15), .int 0, .int 0, .int 0, .int 0, .int 0, .int 0, .int 5, .int 0]))] sz) := by
  refine Met.ofW (cc := cX2_letSnow) (maxL := 4) (ret := none) (by decide) rfl ?_
  intro p e s m args below meth c s₁ B hml hv
  obtain ⟨rfl, hsz, hP, hE, hD0⟩ := hv
  have hx := B.exec
  have hb := B.bytes
  have hr := B.returns
  have hts := atoms_spec (ws := vc_letSnow) B.pre
  have hown : s.vm.findClass RX2 = some m.cls := findClass_of_methodNamed B.named
  have hlocks := B.notSynchronized
  subst hsz
  have hD := hD0.self (sz := s.heap.size)
  generalize hAe : va_A [(na 2, .inr (2, [.ref (na 16), .ref (na 17), .ref (na 18), .ref (na 19), .ref (na 20), .int 0, .int 0, .int 0, .int 0, .int 0, .int 0, .int 0, .int 0])), (na 1, .inr (4, [.ref (na 4), .ref (na 5), .ref (na 6), .ref (na 7), .ref (na 8), .ref (na 9), .ref (na 10), .ref (na 11), .ref (na 12), .ref (na 13), .ref (na 14), .ref (na 15), .int 0, .int 0, .int 0, .int 0, .int 0, .int 0, .int 5, .int 0]))] s.heap.size = A at hD ⊢
  have hA : ∀ q : Nat, s.heap.size ≤ q → A q := fun q h => by rw [← hAe]; exact Or.inr h
  have hS : va_S A s.heap s.heap [] := va_S.rf
  have hK := hE.1
  have hP : va_P D vwCl [(na 2, .inr (2, [.ref (na 16), .ref (na 17), .ref (na 18), .ref (na 19), .ref (na 20), .int 0, .int 0, .int 0, .int 0, .int 0, .int 0, .int 0, .int 0])), (na 1, .inr (4, [.ref (na 4), .ref (na 5), .ref (na 6), .ref (na 7), .ref (na 8), .ref (na 9), .ref (na 10), .ref (na 11), .ref (na 12), .ref (na 13), .ref (na 14), .ref (na 15), .int 0, .int 0, .int 0, .int 0, .int 0, .int 0, .int 5, .int 0]))] s.heap := hP
  have hl := lv_entry ([.ref (na 2), .ref (na 1), .int g]) (n := 4) (Nat.le_of_ble_eq_true rfl)
  rw [lg_entry_eq]
  generalize (lg_sl ([.ref (na 2), .ref (na 1), .int g]) ++ List.replicate (4 - (lg_sl ([.ref (na 2), .ref (na 1), .int g])).length) Slot.unset).toArray = ls at hl ⊢
  have hl : lv_has ls 4 [(0, .ref (na 2)), (1, .ref (na 1)), (2, .int g)] := hl
  refine lv_iconst (v := 0) hx hb dX2_letSnow_0 (by decide) ?_
  refine lv_istore_n (lv' := [(3, .int 0), (0, .ref (na 2)), (1, .ref (na 1)), (2, .int g)]) hx hb dX2_letSnow_1 rfl hl (by decide) rfl (fun ls hl => ?_)
  refine lv_iload_n hx hb dX2_letSnow_2 rfl (lv_at hl 0 rfl) ?_
  refine lv_aload_n hx hb dX2_letSnow_3 rfl (lv_at hl 2 rfl) ?_
  refine va_getN (D := D) (ci := 4) (v := .int 0) (C := RX4) (T := TX4) (N := 20) hx hb hts ic_letSnow_X4 hown hK hP 1 rfl rfl 13 (by decide) (hE.nw 35 rfl) (fun _ h9 => h9) rfl dX2_letSnow_4 ?_
  refine lv_icmp_ge (tgt := 43) hx hb dX2_letSnow_7 (by decide) (fun _ => ?_) (fun h => absurd (by decide) h)
  exact W.vret hx hb hr (fun t9 ht hW => ⟨⟨(), rfl, trivial, trivial⟩, hS.F ht⟩) hS.2.2 dX2_letSnow_43
theorem dX2_sendCats_0 : decode cX2_sendCats 0 = .ok (.iconst 0, 1) := by decide +kernel
theorem dX2_sendCats_1 : decode cX2_sendCats 1 = .ok (.istore_n 2, 1) := by decide +kernel
theorem dX2_sendCats_2 : decode cX2_sendCats 2 = .ok (.iload_n 2, 1) := by decide +kernel
theorem dX2_sendCats_3 : decode cX2_sendCats 3 = .ok (.aload_n 1, 1) := by decide +kernel
theorem dX2_sendCats_4 : decode cX2_sendCats 4 = .ok (.getfield 113, 3) := by decide +kernel
theorem dX2_sendCats_7 : decode cX2_sendCats 7 = .ok (.if_icmp .ge 46, 3) := by decide +kernel
theorem dX2_sendCats_53 : decode cX2_sendCats 53 = .ok (.return_, 1) := by decide +kernel
def vdc_sendCats : List Cond := [.code yX2_sendCats cX2_sendCats 3 none]
def vc_sendCats : List Cond := vdc_sendCats ++ (wsX40 ++ ([] : List Cond))
theorem ic_sendCats_X4 : ∀ w ∈ wsX40, w ∈ vc_sendCats := fun _ h => List.mem_append_right _ (List.mem_append_left _ h)
set_option maxHeartbeats 4000000 in
set_option maxRecDepth 100000 in
theorem c_sendCats (l : Launch) (D : va_G) (kc : Nat → ClassId) (sz : Nat) (na : Nat → Nat) : Met l yX2_sendCats vc_sendCats ({ frames := 0, cells := 0, slots := 0, locals := 0 }) (va_Pc [.ref (na 2), .ref (na 1)] (wPre D kc [(na 2, .inr (2, [.ref (na 16), .ref (na 17), .ref (na 18), .ref (na 19), .ref (na 20), .int 0, .int 0, .int 0, .int 0, .int 0, .int 0, .int 0, .int 0])), (na 1, .inr (4, [.ref (na 4), .ref (na 5), .ref (na 6), .ref (na 7), .ref (na 8), .ref (na 9), .ref (na 10), .ref (na 11), .ref (na 12), .ref (na 13), .ref (na 14), .ref (na 15), .int 0, .int 0, .int 0, .int 0, .int 0, .int 0, .int 5, .int 0]))] sz)) (va_Qv (fun (_ : Unit) => True) (wPost D [(na 2, .inr (2, [.ref (na 16), .ref (na 17), .ref (na 18), .ref (na 19), .ref (na 20), .int 0, .int 0, .int 0, .int 0, .int 0, .int 0, .int 0, .int 0])), (na 1, .inr (4, [.ref (na 4), .ref (na 5), .ref (na 6), .ref (na 7), .ref (na 8), .ref (na 9), .ref (na 10), .ref (na 11), .ref (na 12), .ref (na 13), .ref (na 14), .ref (na 15), .int 0, .int 0, .int 0, .int 0, .int 0, .int 0, .int 5, .int 0]))] (va_A [(na 2, .inr (2, [.ref (na 16), .ref (na 17), .ref (na 18), .ref (na 19), .ref (na 20), .int 0, .int 0, .int 0, .int 0, .int 0, .int 0, .int 0, .int 0])), (na 1, .inr (4, [.ref (na 4), .ref (na 5), .ref (na 6), .ref (na 7), .ref (na 8), .ref (na 9), .ref (na 10), .ref (na 11), .ref (na 12), .ref (na 13), .ref (na 14), .ref (na 15), .int 0, .int 0, .int 0, .int 0, .int 0, .int 0, .int 5, .int 0]))] sz)) (va_A [(na 2, .inr (2, [.ref (na 16), .ref (na 17), .ref (na 18), .ref (na 19), .ref (na 20), .int 0, .int 0, .int 0, .int 0, .int 0, .int 0, .int 0, .int 0])), (na 1, .inr (4, [.ref (na 4), .ref (na 5), .ref (na 6), .ref (na 7), .ref (na 8), .ref (na 9), .ref (na 10), .ref (na 11), .ref (na 12), .ref (na 13), .ref (na 14), .ref (na 15), .int 0, .int 0, .int 0, .int 0, .int 0, .int 0, .int 5, .int 0]))] sz)) 0 0 (va_A [(na 2, .inr (2, [.ref (na 16), .ref (na 17), .ref (na 18), .ref (na 19), .ref (na 20), .int 0, .int 0, .int 0, .int 0, .int 0, .int 0, .int 0, .int 0])), (na 1, .inr (4, [.ref (na 4), .ref (na 5), .ref (na 6), .ref (na 7), .ref (na 8), .ref (na 9), .ref (na 10), .ref (na 11), .ref (na 12), .ref (na 13), .ref (na 14), .ref (na 15), .int 0, .int 0, .int 0, .int 0, .int 0, .int 0, .int 5, .int 0]))] sz) := by
  refine Met.ofW (cc := cX2_sendCats) (maxL := 3) (ret := none) (by decide) rfl ?_
  intro p e s m args below meth c s₁ B hml hv
  obtain ⟨rfl, hsz, hP, hE, hD0⟩ := hv
  have hx := B.exec
  have hb := B.bytes
  have hr := B.returns
  have hts := atoms_spec (ws := vc_sendCats) B.pre
  have hown : s.vm.findClass RX2 = some m.cls := findClass_of_methodNamed B.named
  have hlocks := B.notSynchronized
  subst hsz
  have hD := hD0.self (sz := s.heap.size)
  generalize hAe : va_A [(na 2, .inr (2, [.ref (na 16), .ref (na 17), .ref (na 18), .ref (na 19), .ref (na 20), .int 0, .int 0, .int 0, .int 0, .int 0, .int 0, .int 0, .int 0])), (na 1, .inr (4, [.ref (na 4), .ref (na 5), .ref (na 6), .ref (na 7), .ref (na 8), .ref (na 9), .ref (na 10), .ref (na 11), .ref (na 12), .ref (na 13), .ref (na 14), .ref (na 15), .int 0, .int 0, .int 0, .int 0, .int 0, .int 0, .int 5, .int 0]))] s.heap.size = A at hD ⊢
  have hA : ∀ q : Nat, s.heap.size ≤ q → A q := fun q h => by rw [← hAe]; exact Or.inr h
  have hS : va_S A s.heap s.heap [] := va_S.rf
  have hK := hE.1
  have hP : va_P D vwCl [(na 2, .inr (2, [.ref (na 16), .ref (na 17), .ref (na 18), .ref (na 19), .ref (na 20), .int 0, .int 0, .int 0, .int 0, .int 0, .int 0, .int 0, .int 0])), (na 1, .inr (4, [.ref (na 4), .ref (na 5), .ref (na 6), .ref (na 7), .ref (na 8), .ref (na 9), .ref (na 10), .ref (na 11), .ref (na 12), .ref (na 13), .ref (na 14), .ref (na 15), .int 0, .int 0, .int 0, .int 0, .int 0, .int 0, .int 5, .int 0]))] s.heap := hP
  have hl := lv_entry ([.ref (na 2), .ref (na 1)]) (n := 3) (Nat.le_of_ble_eq_true rfl)
  rw [lg_entry_eq]
  generalize (lg_sl ([.ref (na 2), .ref (na 1)]) ++ List.replicate (3 - (lg_sl ([.ref (na 2), .ref (na 1)])).length) Slot.unset).toArray = ls at hl ⊢
  have hl : lv_has ls 3 [(0, .ref (na 2)), (1, .ref (na 1))] := hl
  refine lv_iconst (v := 0) hx hb dX2_sendCats_0 (by decide) ?_
  refine lv_istore_n (lv' := [(2, .int 0), (0, .ref (na 2)), (1, .ref (na 1))]) hx hb dX2_sendCats_1 rfl hl (by decide) rfl (fun ls hl => ?_)
  refine lv_iload_n hx hb dX2_sendCats_2 rfl (lv_at hl 0 rfl) ?_
  refine lv_aload_n hx hb dX2_sendCats_3 rfl (lv_at hl 2 rfl) ?_
  refine va_getN (D := D) (ci := 4) (v := .int 0) (C := RX4) (T := TX4) (N := 20) hx hb hts ic_sendCats_X4 hown hK hP 1 rfl rfl 15 (by decide) (hE.nw 44 rfl) (fun _ h9 => h9) rfl dX2_sendCats_4 ?_
  refine lv_icmp_ge (tgt := 53) hx hb dX2_sendCats_7 (by decide) (fun _ => ?_) (fun h => absurd (by decide) h)
  have hP9 := hP.sub (ws' := [(na 2, .inr (2, [.ref (na 16), .ref (na 17), .ref (na 18), .ref (na 19), .ref (na 20), .int 0, .int 0, .int 0, .int 0, .int 0, .int 0, .int 0, .int 0])), (na 1, .inr (4, [.ref (na 4), .ref (na 5), .ref (na 6), .ref (na 7), .ref (na 8), .ref (na 9), .ref (na 10), .ref (na 11), .ref (na 12), .ref (na 13), .ref (na 14), .ref (na 15), .int 0, .int 0, .int 0, .int 0, .int 0, .int 0, .int 5, .int 0]))]) [0, 1] rfl
  have hD9 := hD.sub (ws' := [(na 2, .inr (2, [.ref (na 16), .ref (na 17), .ref (na 18), .ref (na 19), .ref (na 20), .int 0, .int 0, .int 0, .int 0, .int 0, .int 0, .int 0, .int 0])), (na 1, .inr (4, [.ref (na 4), .ref (na 5), .ref (na 6), .ref (na 7), .ref (na 8), .ref (na 9), .ref (na 10), .ref (na 11), .ref (na 12), .ref (na 13), .ref (na 14), .ref (na 15), .int 0, .int 0, .int 0, .int 0, .int 0, .int 0, .int 5, .int 0]))]) [0, 1] (by decide) rfl
  exact W.vret hx hb hr (fun t9 ht hW => ⟨⟨(), rfl, trivial, ⟨by rw [ht]; exact hP9, hD9⟩⟩, hS.F ht⟩) hS.2.2 dX2_sendCats_53
theorem dX2_meltSnow_0 : decode cX2_meltSnow 0 = .ok (.iconst 0, 1) := by decide +kernel
theorem dX2_meltSnow_1 : decode cX2_meltSnow 1 = .ok (.istore_n 2, 1) := by decide +kernel
theorem dX2_meltSnow_2 : decode cX2_meltSnow 2 = .ok (.iload_n 2, 1) := by decide +kernel
theorem dX2_meltSnow_3 : decode cX2_meltSnow 3 = .ok (.aload_n 1, 1) := by decide +kernel
theorem dX2_meltSnow_4 : decode cX2_meltSnow 4 = .ok (.getfield 65, 3) := by decide +kernel
theorem dX2_meltSnow_7 : decode cX2_meltSnow 7 = .ok (.if_icmp .ge 55, 3) := by decide +kernel
theorem dX2_meltSnow_62 : decode cX2_meltSnow 62 = .ok (.return_, 1) := by decide +kernel
def vdc_meltSnow : List Cond := [.code yX2_meltSnow cX2_meltSnow 4 none]
def vc_meltSnow : List Cond := vdc_meltSnow ++ (wsX40 ++ ([] : List Cond))
theorem ic_meltSnow_X4 : ∀ w ∈ wsX40, w ∈ vc_meltSnow := fun _ h => List.mem_append_right _ (List.mem_append_left _ h)
set_option maxHeartbeats 4000000 in
set_option maxRecDepth 100000 in
theorem c_meltSnow (l : Launch) (D : va_G) (kc : Nat → ClassId) (sz : Nat) (na : Nat → Nat) : Met l yX2_meltSnow vc_meltSnow ({ frames := 0, cells := 0, slots := 0, locals := 0 }) (va_Pc [.ref (na 2), .ref (na 1)] (wPre D kc [(na 2, .inr (2, [.ref (na 16), .ref (na 17), .ref (na 18), .ref (na 19), .ref (na 20), .int 0, .int 0, .int 0, .int 0, .int 0, .int 0, .int 0, .int 0])), (na 1, .inr (4, [.ref (na 4), .ref (na 5), .ref (na 6), .ref (na 7), .ref (na 8), .ref (na 9), .ref (na 10), .ref (na 11), .ref (na 12), .ref (na 13), .ref (na 14), .ref (na 15), .int 0, .int 0, .int 0, .int 0, .int 0, .int 0, .int 5, .int 0]))] sz)) (va_Qv (fun (_ : Unit) => True) (wPost D [(na 2, .inr (2, [.ref (na 16), .ref (na 17), .ref (na 18), .ref (na 19), .ref (na 20), .int 0, .int 0, .int 0, .int 0, .int 0, .int 0, .int 0, .int 0])), (na 1, .inr (4, [.ref (na 4), .ref (na 5), .ref (na 6), .ref (na 7), .ref (na 8), .ref (na 9), .ref (na 10), .ref (na 11), .ref (na 12), .ref (na 13), .ref (na 14), .ref (na 15), .int 0, .int 0, .int 0, .int 0, .int 0, .int 0, .int 5, .int 0]))] (va_A [(na 2, .inr (2, [.ref (na 16), .ref (na 17), .ref (na 18), .ref (na 19), .ref (na 20), .int 0, .int 0, .int 0, .int 0, .int 0, .int 0, .int 0, .int 0])), (na 1, .inr (4, [.ref (na 4), .ref (na 5), .ref (na 6), .ref (na 7), .ref (na 8), .ref (na 9), .ref (na 10), .ref (na 11), .ref (na 12), .ref (na 13), .ref (na 14), .ref (na 15), .int 0, .int 0, .int 0, .int 0, .int 0, .int 0, .int 5, .int 0]))] sz)) (va_A [(na 2, .inr (2, [.ref (na 16), .ref (na 17), .ref (na 18), .ref (na 19), .ref (na 20), .int 0, .int 0, .int 0, .int 0, .int 0, .int 0, .int 0, .int 0])), (na 1, .inr (4, [.ref (na 4), .ref (na 5), .ref (na 6), .ref (na 7), .ref (na 8), .ref (na 9), .ref (na 10), .ref (na 11), .ref (na 12), .ref (na 13), .ref (na 14), .ref (na 15), .int 0, .int 0, .int 0, .int 0, .int 0, .int 0, .int 5, .int 0]))] sz)) 0 0 (va_A [(na 2, .inr (2, [.ref (na 16), .ref (na 17), .ref (na 18), .ref (na 19), .ref (na 20), .int 0, .int 0, .int 0, .int 0, .int 0, .int 0, .int 0, .int 0])), (na 1, .inr (4, [.ref (na 4), .ref (na 5), .ref (na 6), .ref (na 7), .ref (na 8), .ref (na 9), .ref (na 10), .ref (na 11), .ref (na 12), .ref (na 13), .ref (na 14), .ref (na 15), .int 0, .int 0, .int 0, .int 0, .int 0, .int 0, .int 5, .int 0]))] sz) := by
  refine Met.ofW (cc := cX2_meltSnow) (maxL := 4) (ret := none) (by decide) rfl ?_
  intro p e s m args below meth c s₁ B hml hv
  obtain ⟨rfl, hsz, hP, hE, hD0⟩ := hv
  have hx := B.exec
  have hb := B.bytes
  have hr := B.returns
  have hts := atoms_spec (ws := vc_meltSnow) B.pre
  have hown : s.vm.findClass RX2 = some m.cls := findClass_of_methodNamed B.named
  have hlocks := B.notSynchronized
  subst hsz
  have hD := hD0.self (sz := s.heap.size)
  generalize hAe : va_A [(na 2, .inr (2, [.ref (na 16), .ref (na 17), .ref (na 18), .ref (na 19), .ref (na 20), .int 0, .int 0, .int 0, .int 0, .int 0, .int 0, .int 0, .int 0])), (na 1, .inr (4, [.ref (na 4), .ref (na 5), .ref (na 6), .ref (na 7), .ref (na 8), .ref (na 9), .ref (na 10), .ref (na 11), .ref (na 12), .ref (na 13), .ref (na 14), .ref (na 15), .int 0, .int 0, .int 0, .int 0, .int 0, .int 0, .int 5, .int 0]))] s.heap.size = A at hD ⊢
  have hA : ∀ q : Nat, s.heap.size ≤ q → A q := fun q h => by rw [← hAe]; exact Or.inr h
  have hS : va_S A s.heap s.heap [] := va_S.rf
  have hK := hE.1
  have hP : va_P D vwCl [(na 2, .inr (2, [.ref (na 16), .ref (na 17), .ref (na 18), .ref (na 19), .ref (na 20), .int 0, .int 0, .int 0, .int 0, .int 0, .int 0, .int 0, .int 0])), (na 1, .inr (4, [.ref (na 4), .ref (na 5), .ref (na 6), .ref (na 7), .ref (na 8), .ref (na 9), .ref (na 10), .ref (na 11), .ref (na 12), .ref (na 13), .ref (na 14), .ref (na 15), .int 0, .int 0, .int 0, .int 0, .int 0, .int 0, .int 5, .int 0]))] s.heap := hP
  have hl := lv_entry ([.ref (na 2), .ref (na 1)]) (n := 4) (Nat.le_of_ble_eq_true rfl)
  rw [lg_entry_eq]
  generalize (lg_sl ([.ref (na 2), .ref (na 1)]) ++ List.replicate (4 - (lg_sl ([.ref (na 2), .ref (na 1)])).length) Slot.unset).toArray = ls at hl ⊢
  have hl : lv_has ls 4 [(0, .ref (na 2)), (1, .ref (na 1))] := hl
  refine lv_iconst (v := 0) hx hb dX2_meltSnow_0 (by decide) ?_
  refine lv_istore_n (lv' := [(2, .int 0), (0, .ref (na 2)), (1, .ref (na 1))]) hx hb dX2_meltSnow_1 rfl hl (by decide) rfl (fun ls hl => ?_)
  refine lv_iload_n hx hb dX2_meltSnow_2 rfl (lv_at hl 0 rfl) ?_
  refine lv_aload_n hx hb dX2_meltSnow_3 rfl (lv_at hl 2 rfl) ?_
  refine va_getN (D := D) (ci := 4) (v := .int 0) (C := RX4) (T := TX4) (N := 20) hx hb hts ic_meltSnow_X4 hown hK hP 1 rfl rfl 13 (by decide) (hE.nw 35 rfl) (fun _ h9 => h9) rfl dX2_meltSnow_4 ?_
  refine lv_icmp_ge (tgt := 62) hx hb dX2_meltSnow_7 (by decide) (fun _ => ?_) (fun h => absurd (by decide) h)
  have hP9 := hP.sub (ws' := [(na 2, .inr (2, [.ref (na 16), .ref (na 17), .ref (na 18), .ref (na 19), .ref (na 20), .int 0, .int 0, .int 0, .int 0, .int 0, .int 0, .int 0, .int 0])), (na 1, .inr (4, [.ref (na 4), .ref (na 5), .ref (na 6), .ref (na 7), .ref (na 8), .ref (na 9), .ref (na 10), .ref (na 11), .ref (na 12), .ref (na 13), .ref (na 14), .ref (na 15), .int 0, .int 0, .int 0, .int 0, .int 0, .int 0, .int 5, .int 0]))]) [0, 1] rfl
  have hD9 := hD.sub (ws' := [(na 2, .inr (2, [.ref (na 16), .ref (na 17), .ref (na 18), .ref (na 19), .ref (na 20), .int 0, .int 0, .int 0, .int 0, .int 0, .int 0, .int 0, .int 0])), (na 1, .inr (4, [.ref (na 4), .ref (na 5), .ref (na 6), .ref (na 7), .ref (na 8), .ref (na 9), .ref (na 10), .ref (na 11), .ref (na 12), .ref (na 13), .ref (na 14), .ref (na 15), .int 0, .int 0, .int 0, .int 0, .int 0, .int 0, .int 5, .int 0]))]) [0, 1] (by decide) rfl
  exact W.vret hx hb hr (fun t9 ht hW => ⟨⟨(), rfl, trivial, ⟨by rw [ht]; exact hP9, hD9⟩⟩, hS.F ht⟩) hS.2.2 dX2_meltSnow_62
theorem dX2_countWar_0 : decode cX2_countWar 0 = .ok (.iconst 0, 1) := by decide +kernel
theorem dX2_countWar_1 : decode cX2_countWar 1 = .ok (.istore_n 2, 1) := by decide +kernel
theorem dX2_countWar_2 : decode cX2_countWar 2 = .ok (.iload_n 2, 1) := by decide +kernel
theorem dX2_countWar_3 : decode cX2_countWar 3 = .ok (.aload_n 1, 1) := by decide +kernel
theorem dX2_countWar_4 : decode cX2_countWar 4 = .ok (.getfield 129, 3) := by decide +kernel
theorem dX2_countWar_7 : decode cX2_countWar 7 = .ok (.if_icmp .ge 30, 3) := by decide +kernel
theorem dX2_countWar_37 : decode cX2_countWar 37 = .ok (.return_, 1) := by decide +kernel
def vdc_countWar : List Cond := [.code yX2_countWar cX2_countWar 3 none]
def vc_countWar : List Cond := vdc_countWar ++ (wsX40 ++ ([] : List Cond))
theorem ic_countWar_X4 : ∀ w ∈ wsX40, w ∈ vc_countWar := fun _ h => List.mem_append_right _ (List.mem_append_left _ h)
set_option maxHeartbeats 4000000 in
set_option maxRecDepth 100000 in
theorem c_countWar (l : Launch) (D : va_G) (kc : Nat → ClassId) (sz : Nat) (na : Nat → Nat) : Met l yX2_countWar vc_countWar ({ frames := 0, cells := 0, slots := 0, locals := 0 }) (va_Pc [.ref (na 2), .ref (na 1)] (wPre D kc [(na 2, .inr (2, [.ref (na 16), .ref (na 17), .ref (na 18), .ref (na 19), .ref (na 20), .int 0, .int 0, .int 0, .int 0, .int 0, .int 0, .int 0, .int 0])), (na 1, .inr (4, [.ref (na 4), .ref (na 5), .ref (na 6), .ref (na 7), .ref (na 8), .ref (na 9), .ref (na 10), .ref (na 11), .ref (na 12), .ref (na 13), .ref (na 14), .ref (na 15), .int 0, .int 0, .int 0, .int 0, .int 0, .int 0, .int 5, .int 0]))] sz)) (va_Qv (fun (_ : Unit) => True) (wPost D [(na 2, .inr (2, [.ref (na 16), .ref (na 17), .ref (na 18), .ref (na 19), .ref (na 20), .int 0, .int 0, .int 0, .int 0, .int 0, .int 0, .int 0, .int 0])), (na 1, .inr (4, [.ref (na 4), .ref (na 5), .ref (na 6), .ref (na 7), .ref (na 8), .ref (na 9), .ref (na 10), .ref (na 11), .ref (na 12), .ref (na 13), .ref (na 14), .ref (na 15), .int 0, .int 0, .int 0, .int 0, .int 0, .int 0, .int 5, .int 0]))] (va_A [(na 2, .inr (2, [.ref (na 16), .ref (na 17), .ref (na 18), .ref (na 19), .ref (na 20), .int 0, .int 0, .int 0, .int 0, .int 0, .int 0, .int 0, .int 0])), (na 1, .inr (4, [.ref (na 4), .ref (na 5), .ref (na 6), .ref (na 7), .ref (na 8), .ref (na 9), .ref (na 10), .ref (na 11), .ref (na 12), .ref (na 13), .ref (na 14), .ref (na 15), .int 0, .int 0, .int 0, .int 0, .int 0, .int 0, .int 5, .int 0]))] sz)) (va_A [(na 2, .inr (2, [.ref (na 16), .ref (na 17), .ref (na 18), .ref (na 19), .ref (na 20), .int 0, .int 0, .int 0, .int 0, .int 0, .int 0, .int 0, .int 0])), (na 1, .inr (4, [.ref (na 4), .ref (na 5), .ref (na 6), .ref (na 7), .ref (na 8), .ref (na 9), .ref (na 10), .ref (na 11), .ref (na 12), .ref (na 13), .ref (na 14), .ref (na 15), .int 0, .int 0, .int 0, .int 0, .int 0, .int 0, .int 5, .int 0]))] sz)) 0 0 (va_A [(na 2, .inr (2, [.ref (na 16), .ref (na 17), .ref (na 18), .ref (na 19), .ref (na 20), .int 0, .int 0, .int 0, .int 0, .int 0, .int 0, .int 0, .int 0])), (na 1, .inr (4, [.ref (na 4), .ref (na 5), .ref (na 6), .ref (na 7), .ref (na 8), .ref (na 9), .ref (na 10), .ref (na 11), .ref (na 12), .ref (na 13), .ref (na 14), .ref (na 15), .int 0, .int 0, .int 0, .int 0, .int 0, .int 0, .int 5, .int 0]))] sz) := by
  refine Met.ofW (cc := cX2_countWar) (maxL := 3) (ret := none) (by decide) rfl ?_
  intro p e s m args below meth c s₁ B hml hv
  obtain ⟨rfl, hsz, hP, hE, hD0⟩ := hv
  have hx := B.exec
  have hb := B.bytes
  have hr := B.returns
  have hts := atoms_spec (ws := vc_countWar) B.pre
  have hown : s.vm.findClass RX2 = some m.cls := findClass_of_methodNamed B.named
  have hlocks := B.notSynchronized
  subst hsz
  have hD := hD0.self (sz := s.heap.size)
  generalize hAe : va_A [(na 2, .inr (2, [.ref (na 16), .ref (na 17), .ref (na 18), .ref (na 19), .ref (na 20), .int 0, .int 0, .int 0, .int 0, .int 0, .int 0, .int 0, .int 0])), (na 1, .inr (4, [.ref (na 4), .ref (na 5), .ref (na 6), .ref (na 7), .ref (na 8), .ref (na 9), .ref (na 10), .ref (na 11), .ref (na 12), .ref (na 13), .ref (na 14), .ref (na 15), .int 0, .int 0, .int 0, .int 0, .int 0, .int 0, .int 5, .int 0]))] s.heap.size = A at hD ⊢
  have hA : ∀ q : Nat, s.heap.size ≤ q → A q := fun q h => by rw [← hAe]; exact Or.inr h
  have hS : va_S A s.heap s.heap [] := va_S.rf
  have hK := hE.1
  have hP : va_P D vwCl [(na 2, .inr (2, [.ref (na 16), .ref (na 17), .ref (na 18), .ref (na 19), .ref (na 20), .int 0, .int 0, .int 0, .int 0, .int 0, .int 0, .int 0, .int 0])), (na 1, .inr (4, [.ref (na 4), .ref (na 5), .ref (na 6), .ref (na 7), .ref (na 8), .ref (na 9), .ref (na 10), .ref (na 11), .ref (na 12), .ref (na 13), .ref (na 14), .ref (na 15), .int 0, .int 0, .int 0, .int 0, .int 0, .int 0, .int 5, .int 0]))] s.heap := hP
  have hl := lv_entry ([.ref (na 2), .ref (na 1)]) (n := 3) (Nat.le_of_ble_eq_true rfl)
  rw [lg_entry_eq]
  generalize (lg_sl ([.ref (na 2), .ref (na 1)]) ++ List.replicate (3 - (lg_sl ([.ref (na 2), .ref (na 1)])).length) Slot.unset).toArray = ls at hl ⊢
  have hl : lv_has ls 3 [(0, .ref (na 2)), (1, .ref (na 1))] := hl
  refine lv_iconst (v := 0) hx hb dX2_countWar_0 (by decide) ?_
  refine lv_istore_n (lv' := [(2, .int 0), (0, .ref (na 2)), (1, .ref (na 1))]) hx hb dX2_countWar_1 rfl hl (by decide) rfl (fun ls hl => ?_)
  refine lv_iload_n hx hb dX2_countWar_2 rfl (lv_at hl 0 rfl) ?_
  refine lv_aload_n hx hb dX2_countWar_3 rfl (lv_at hl 2 rfl) ?_
  refine va_getN (D := D) (ci := 4) (v := .int 0) (C := RX4) (T := TX4) (N := 20) hx hb hts ic_countWar_X4 hown hK hP 1 rfl rfl 14 (by decide) (hE.nw 41 rfl) (fun _ h9 => h9) rfl dX2_countWar_4 ?_
  refine lv_icmp_ge (tgt := 37) hx hb dX2_countWar_7 (by decide) (fun _ => ?_) (fun h => absurd (by decide) h)
  have hP9 := hP.sub (ws' := [(na 2, .inr (2, [.ref (na 16), .ref (na 17), .ref (na 18), .ref (na 19), .ref (na 20), .int 0, .int 0, .int 0, .int 0, .int 0, .int 0, .int 0, .int 0])), (na 1, .inr (4, [.ref (na 4), .ref (na 5), .ref (na 6), .ref (na 7), .ref (na 8), .ref (na 9), .ref (na 10), .ref (na 11), .ref (na 12), .ref (na 13), .ref (na 14), .ref (na 15), .int 0, .int 0, .int 0, .int 0, .int 0, .int 0, .int 5, .int 0]))]) [0, 1] rfl
  have hD9 := hD.sub (ws' := [(na 2, .inr (2, [.ref (na 16), .ref (na 17), .ref (na 18), .ref (na 19), .ref (na 20), .int 0, .int 0, .int 0, .int 0, .int 0, .int 0, .int 0, .int 0])), (na 1, .inr (4, [.ref (na 4), .ref (na 5), .ref (na 6), .ref (na 7), .ref (na 8), .ref (na 9), .ref (na 10), .ref (na 11), .ref (na 12), .ref (na 13), .ref (na 14), .ref (na 15), .int 0, .int 0, .int 0, .int 0, .int 0, .int 0, .int 5, .int 0]))]) [0, 1] (by decide) rfl
  exact W.vret hx hb hr (fun t9 ht hW => ⟨⟨(), rfl, trivial, ⟨by rw [ht]; exact hP9, hD9⟩⟩, hS.F ht⟩) hS.2.2 dX2_countWar_37
theorem dX2_passNight_0 : decode cX2_passNight 0 = .ok (.aload_n 0, 1) := by decide +kernel
theorem dX2_passNight_1 : decode cX2_passNight 1 = .ok (.aload_n 1, 1) := by decide +kernel
theorem dX2_passNight_2 : decode cX2_passNight 2 = .ok (.invokevirtual 97, 3) := by decide +kernel
theorem dX2_passNight_5 : decode cX2_passNight 5 = .ok (.aload_n 0, 1) := by decide +kernel
theorem dX2_passNight_6 : decode cX2_passNight 6 = .ok (.aload_n 1, 1) := by decide +kernel
theorem dX2_passNight_7 : decode cX2_passNight 7 = .ok (.invokevirtual 101, 3) := by decide +kernel
theorem dX2_passNight_10 : decode cX2_passNight 10 = .ok (.aload_n 1, 1) := by decide +kernel
theorem dX2_passNight_11 : decode cX2_passNight 11 = .ok (.aload_n 0, 1) := by decide +kernel
theorem dX2_passNight_12 : decode cX2_passNight 12 = .ok (.iconst (-1), 1) := by decide +kernel
theorem dX2_passNight_13 : decode cX2_passNight 13 = .ok (.invokestatic 104, 3) := by decide +kernel
theorem dX2_passNight_16 : decode cX2_passNight 16 = .ok (.istore_n 2, 1) := by decide +kernel
theorem dX2_passNight_17 : decode cX2_passNight 17 = .ok (.aload_n 0, 1) := by decide +kernel
theorem dX2_passNight_18 : decode cX2_passNight 18 = .ok (.aload_n 0, 1) := by decide +kernel
theorem dX2_passNight_19 : decode cX2_passNight 19 = .ok (.getfield 38, 3) := by decide +kernel
theorem dX2_passNight_22 : decode cX2_passNight 22 = .ok (.ifCond .eq 7, 3) := by decide +kernel
theorem dX2_passNight_29 : decode cX2_passNight 29 = .ok (.aload_n 0, 1) := by decide +kernel
theorem dX2_passNight_30 : decode cX2_passNight 30 = .ok (.getfield 31, 3) := by decide +kernel
theorem dX2_passNight_33 : decode cX2_passNight 33 = .ok (.iload_n 2, 1) := by decide +kernel
theorem dX2_passNight_34 : decode cX2_passNight 34 = .ok (.ior, 1) := by decide +kernel
theorem dX2_passNight_35 : decode cX2_passNight 35 = .ok (.putfield 31, 3) := by decide +kernel
theorem dX2_passNight_38 : decode cX2_passNight 38 = .ok (.aload_n 0, 1) := by decide +kernel
theorem dX2_passNight_39 : decode cX2_passNight 39 = .ok (.aload_n 1, 1) := by decide +kernel
theorem dX2_passNight_40 : decode cX2_passNight 40 = .ok (.invokevirtual 110, 3) := by decide +kernel
theorem dX2_passNight_43 : decode cX2_passNight 43 = .ok (.aload_n 0, 1) := by decide +kernel
theorem dX2_passNight_44 : decode cX2_passNight 44 = .ok (.sipush 999, 3) := by decide +kernel
theorem dX2_passNight_47 : decode cX2_passNight 47 = .ok (.aload_n 0, 1) := by decide +kernel
theorem dX2_passNight_48 : decode cX2_passNight 48 = .ok (.getfield 35, 3) := by decide +kernel
theorem dX2_passNight_51 : decode cX2_passNight 51 = .ok (.iconst 1, 1) := by decide +kernel
theorem dX2_passNight_52 : decode cX2_passNight 52 = .ok (.iadd, 1) := by decide +kernel
theorem dX2_passNight_53 : decode cX2_passNight 53 = .ok (.invokestatic 84, 3) := by decide +kernel
theorem dX2_passNight_56 : decode cX2_passNight 56 = .ok (.putfield 35, 3) := by decide +kernel
theorem dX2_passNight_59 : decode cX2_passNight 59 = .ok (.aload_n 0, 1) := by decide +kernel
theorem dX2_passNight_60 : decode cX2_passNight 60 = .ok (.iconst 0, 1) := by decide +kernel
theorem dX2_passNight_61 : decode cX2_passNight 61 = .ok (.putfield 38, 3) := by decide +kernel
theorem dX2_passNight_64 : decode cX2_passNight 64 = .ok (.return_, 1) := by decide +kernel
def vdc_passNight_0 : List Cond := [.code yX2_passNight cX2_passNight 3 none, .methodLink RX2 97 yX2_sendCats, .code yX2_sendCats cX2_sendCats 3 none, .instanceMethod yX2_sendCats, .selects RX2 yX2_sendCats yX2_sendCats, .initialized RX2, .methodLink RX2 101 yX2_meltSnow, .code yX2_meltSnow cX2_meltSnow 4 none, .instanceMethod yX2_meltSnow, .selects RX2 yX2_meltSnow yX2_meltSnow, .methodLink RX2 104 yX9_atPeace, .code yX9_atPeace cX9_atPeace 5 (some .int), .methodLink RX9 55 yX4_allQuarrels, .code yX4_allQuarrels cX4_allQuarrels 1 (some .int), .fieldLink RX4 63 "SaltStreet$Plan" "quarrels" "I", .instanceMethod yX4_allQuarrels, .selects RX4 yX4_allQuarrels yX4_allQuarrels, .initialized RX4, .static yX9_atPeace, .initialized RX9, .fieldLink RX2 38 "SaltStreet$Ground" "rained" "Z", .fieldLink RX2 31 "SaltStreet$Ground" "over" "I", .methodLink RX2 110 yX2_countWar, .code yX2_countWar cX2_countWar 3 none]
def vdc_passNight_1 : List Cond := [.instanceMethod yX2_countWar, .selects RX2 yX2_countWar yX2_countWar, .fieldLink RX2 35 "SaltStreet$Ground" "day" "I", .methodLink RX2 84 Lib.Math.min.name, .static Lib.Math.min.name, .initialized "java/lang/Math", .code Lib.Math.min.name Lib.Math.min.code 2 (some .int)]
def vdc_passNight : List Cond := (vdc_passNight_0 ++ vdc_passNight_1)
def vc_passNight : List Cond := vdc_passNight ++ (wsX40 ++ (wsX20 ++ ([] : List Cond)))
theorem ic_passNight_X4 : ∀ w ∈ wsX40, w ∈ vc_passNight := fun _ h => List.mem_append_right _ (List.mem_append_left _ h)
theorem ic_passNight_X2 : ∀ w ∈ wsX20, w ∈ vc_passNight := fun _ h => List.mem_append_right _ (List.mem_append_right _ (List.mem_append_left _ h))
set_option maxRecDepth 20000 in
theorem gc_passNight_97_c_sendCats : GoodIn vc_passNight (wsV RX2 97 RX2 yX2_sendCats vc_sendCats) := (goodIn_app (goodIn_r _ [1, 3, 4, 5] rfl (by decide +kernel)) (goodIn_app (goodIn_r vdc_sendCats [2] rfl (by decide +kernel)) (goodIn_app (goodIn_sub ic_passNight_X4 gdX4) goodIn_nil)))
set_option maxRecDepth 20000 in
theorem gc_passNight_101_c_meltSnow : GoodIn vc_passNight (wsV RX2 101 RX2 yX2_meltSnow vc_meltSnow) := (goodIn_app (goodIn_r _ [6, 8, 9, 5] rfl (by decide +kernel)) (goodIn_app (goodIn_r vdc_meltSnow [7] rfl (by decide +kernel)) (goodIn_app (goodIn_sub ic_passNight_X4 gdX4) goodIn_nil)))
set_option maxRecDepth 20000 in
theorem gc_passNight_104_c_atPeace : GoodIn vc_passNight (va_wsS RX2 104 yX9_atPeace vc_atPeace) := (goodIn_app (goodIn_r _ [10, 18, 19] rfl (by decide +kernel)) (goodIn_app (goodIn_r vdc_atPeace [11, 12, 13, 14, 15, 16, 17] rfl (by decide +kernel)) (goodIn_app (goodIn_sub ic_passNight_X4 gdX4) goodIn_nil)))
set_option maxRecDepth 20000 in
theorem gc_passNight_110_c_countWar : GoodIn vc_passNight (wsV RX2 110 RX2 yX2_countWar vc_countWar) := (goodIn_app (goodIn_r _ [22, 24, 25, 5] rfl (by decide +kernel)) (goodIn_app (goodIn_r vdc_countWar [23] rfl (by decide +kernel)) (goodIn_app (goodIn_sub ic_passNight_X4 gdX4) goodIn_nil)))
set_option maxHeartbeats 4000000 in
set_option maxRecDepth 100000 in
theorem c_passNight (l : Launch) (D : va_G) (kc : Nat → ClassId) (sz : Nat) (na : Nat → Nat) : Met l yX2_passNight vc_passNight ({ frames := 2, cells := 0, slots := 0, locals := 44 }) (va_Pc [.ref (na 2), .ref (na 1)] (wPre D kc [(na 2, .inr (2, [.ref (na 16), .ref (na 17), .ref (na 18), .ref (na 19), .ref (na 20), .int 0, .int 0, .int 0, .int 0, .int 0, .int 0, .int 0, .int 0])), (na 1, .inr (4, [.ref (na 4), .ref (na 5), .ref (na 6), .ref (na 7), .ref (na 8), .ref (na 9), .ref (na 10), .ref (na 11), .ref (na 12), .ref (na 13), .ref (na 14), .ref (na 15), .int 0, .int 0, .int 0, .int 0, .int 0, .int 0, .int 5, .int 0]))] sz)) (va_Qv (fun (_ : Unit) => True) (wPost D [(na 2, .inr (2, [.ref (na 16), .ref (na 17), .ref (na 18), .ref (na 19), .ref (na 20), .int 0, .int 1, .int 0, .int 0, .int 0, .int 0, .int 0, .int 0])), (na 1, .inr (4, [.ref (na 4), .ref (na 5), .ref (na 6), .ref (na 7), .ref (na 8), .ref (na 9), .ref (na 10), .ref (na 11), .ref (na 12), .ref (na 13), .ref (na 14), .ref (na 15), .int 0, .int 0, .int 0, .int 0, .int 0, .int 0, .int 5, .int 0]))] (va_A [(na 2, .inr (2, [.ref (na 16), .ref (na 17), .ref (na 18), .ref (na 19), .ref (na 20), .int 0, .int 0, .int 0, .int 0, .int 0, .int 0, .int 0, .int 0])), (na 1, .inr (4, [.ref (na 4), .ref (na 5), .ref (na 6), .ref (na 7), .ref (na 8), .ref (na 9), .ref (na 10), .ref (na 11), .ref (na 12), .ref (na 13), .ref (na 14), .ref (na 15), .int 0, .int 0, .int 0, .int 0, .int 0, .int 0, .int 5, .int 0]))] sz)) (va_A [(na 2, .inr (2, [.ref (na 16), .ref (na 17), .ref (na 18), .ref (na 19), .ref (na 20), .int 0, .int 0, .int 0, .int 0, .int 0, .int 0, .int 0, .int 0])), (na 1, .inr (4, [.ref (na 4), .ref (na 5), .ref (na 6), .ref (na 7), .ref (na 8), .ref (na 9), .ref (na 10), .ref (na 11), .ref (na 12), .ref (na 13), .ref (na 14), .ref (na 15), .int 0, .int 0, .int 0, .int 0, .int 0, .int 0, .int 5, .int 0]))] sz)) 0 0 (va_A [(na 2, .inr (2, [.ref (na 16), .ref (na 17), .ref (na 18), .ref (na 19), .ref (na 20), .int 0, .int 0, .int 0, .int 0, .int 0, .int 0, .int 0, .int 0])), (na 1, .inr (4, [.ref (na 4), .ref (na 5), .ref (na 6), .ref (na 7), .ref (na 8), .ref (na 9), .ref (na 10), .ref (na 11), .ref (na 12), .ref (na 13), .ref (na 14), .ref (na 15), .int 0, .int 0, .int 0, .int 0, .int 0, .int 0, .int 5, .int 0]))] sz) := by
  refine Met.ofW (cc := cX2_passNight) (maxL := 3) (ret := none) (by decide) rfl ?_
  intro p e s m args below meth c s₁ B hml hv
  obtain ⟨rfl, hsz, hP, hE, hD0⟩ := hv
  have hx := B.exec
  have hb := B.bytes
  have hr := B.returns
  have hts := atoms_spec (ws := vc_passNight) B.pre
  have hown : s.vm.findClass RX2 = some m.cls := findClass_of_methodNamed B.named
  have hlocks := B.notSynchronized
  subst hsz
  have hD := hD0.self (sz := s.heap.size)
  generalize hAe : va_A [(na 2, .inr (2, [.ref (na 16), .ref (na 17), .ref (na 18), .ref (na 19), .ref (na 20), .int 0, .int 0, .int 0, .int 0, .int 0, .int 0, .int 0, .int 0])), (na 1, .inr (4, [.ref (na 4), .ref (na 5), .ref (na 6), .ref (na 7), .ref (na 8), .ref (na 9), .ref (na 10), .ref (na 11), .ref (na 12), .ref (na 13), .ref (na 14), .ref (na 15), .int 0, .int 0, .int 0, .int 0, .int 0, .int 0, .int 5, .int 0]))] s.heap.size = A at hD ⊢
  have hA : ∀ q : Nat, s.heap.size ≤ q → A q := fun q h => by rw [← hAe]; exact Or.inr h
  have hS : va_S A s.heap s.heap [] := va_S.rf
  have hK := hE.1
  have hP : va_P D vwCl [(na 2, .inr (2, [.ref (na 16), .ref (na 17), .ref (na 18), .ref (na 19), .ref (na 20), .int 0, .int 0, .int 0, .int 0, .int 0, .int 0, .int 0, .int 0])), (na 1, .inr (4, [.ref (na 4), .ref (na 5), .ref (na 6), .ref (na 7), .ref (na 8), .ref (na 9), .ref (na 10), .ref (na 11), .ref (na 12), .ref (na 13), .ref (na 14), .ref (na 15), .int 0, .int 0, .int 0, .int 0, .int 0, .int 0, .int 5, .int 0]))] s.heap := hP
  have hl := lv_entry ([.ref (na 2), .ref (na 1)]) (n := 3) (Nat.le_of_ble_eq_true rfl)
  rw [lg_entry_eq]
  generalize (lg_sl ([.ref (na 2), .ref (na 1)]) ++ List.replicate (3 - (lg_sl ([.ref (na 2), .ref (na 1)])).length) Slot.unset).toArray = ls at hl ⊢
  have hl : lv_has ls 3 [(0, .ref (na 2)), (1, .ref (na 1))] := hl
  refine lv_aload_n hx hb dX2_passNight_0 rfl (lv_at hl 0 rfl) ?_
  refine lv_aload_n hx hb dX2_passNight_1 rfl (lv_at hl 1 rfl) ?_
  have hPc := hP.sub (ws' := [(na 2, .inr (2, [.ref (na 16), .ref (na 17), .ref (na 18), .ref (na 19), .ref (na 20), .int 0, .int 0, .int 0, .int 0, .int 0, .int 0, .int 0, .int 0])), (na 1, .inr (4, [.ref (na 4), .ref (na 5), .ref (na 6), .ref (na 7), .ref (na 8), .ref (na 9), .ref (na 10), .ref (na 11), .ref (na 12), .ref (na 13), .ref (na 14), .ref (na 15), .int 0, .int 0, .int 0, .int 0, .int 0, .int 0, .int 5, .int 0]))]) [0, 1] rfl
  have hDc := hD.sub (ws' := [(na 2, .inr (2, [.ref (na 16), .ref (na 17), .ref (na 18), .ref (na 19), .ref (na 20), .int 0, .int 0, .int 0, .int 0, .int 0, .int 0, .int 0, .int 0])), (na 1, .inr (4, [.ref (na 4), .ref (na 5), .ref (na 6), .ref (na 7), .ref (na 8), .ref (na 9), .ref (na 10), .ref (na 11), .ref (na 12), .ref (na 13), .ref (na 14), .ref (na 15), .int 0, .int 0, .int 0, .int 0, .int 0, .int 0, .int 5, .int 0]))]) [0, 1] (by decide) rfl
  have hFc := va_free (wc := [(na 2, .inr (2, [.ref (na 16), .ref (na 17), .ref (na 18), .ref (na 19), .ref (na 20), .int 0, .int 0, .int 0, .int 0, .int 0, .int 0, .int 0, .int 0])), (na 1, .inr (4, [.ref (na 4), .ref (na 5), .ref (na 6), .ref (na 7), .ref (na 8), .ref (na 9), .ref (na 10), .ref (na 11), .ref (na 12), .ref (na 13), .ref (na 14), .ref (na 15), .int 0, .int 0, .int 0, .int 0, .int 0, .int 0, .int 5, .int 0]))]) hD hS hA [0, 1] rfl
  refine va_callv (va_runV (As := [.ref (na 1)]) (rest := []) ⟨hx, hb, hml, hown, hts⟩ (c_sendCats l D kc s.heap.size na) (cwV 1 hts gc_passNight_97_c_sendCats rfl rfl rfl (by decide +kernel) ⟨Nat.le_of_ble_eq_true rfl, Nat.le_of_ble_eq_true rfl⟩) (preV_ok hPc hDc hE (ci := 2) (q0 := 0) rfl rfl) rfl rfl hl.1 rfl (lv_room (Nat.le_of_ble_eq_true rfl)) dX2_passNight_2 ⟨Nat.le_of_ble_eq_true rfl, Nat.le_of_ble_eq_true rfl⟩) hS (fun q _ h => hFc q h) hFc (fun u9 t9 H locs ht hvm hw hB hz1 hk1 hS => ?_)
  obtain ⟨hP1, hD1⟩ := hB
  rw [ht] at hP1
  obtain ⟨hP, hD⟩ := va_join (wr := []) (w1 := [(na 2, .inr (2, [.ref (na 16), .ref (na 17), .ref (na 18), .ref (na 19), .ref (na 20), .int 0, .int 0, .int 0, .int 0, .int 0, .int 0, .int 0, .int 0])), (na 1, .inr (4, [.ref (na 4), .ref (na 5), .ref (na 6), .ref (na 7), .ref (na 8), .ref (na 9), .ref (na 10), .ref (na 11), .ref (na 12), .ref (na 13), .ref (na 14), .ref (na 15), .int 0, .int 0, .int 0, .int 0, .int 0, .int 0, .int 5, .int 0]))]) hP hD [0, 1] [] rfl rfl (by decide) (by decide) hk1 hFc hP1 hD1
  have hP : va_P D vwCl [(na 2, .inr (2, [.ref (na 16), .ref (na 17), .ref (na 18), .ref (na 19), .ref (na 20), .int 0, .int 0, .int 0, .int 0, .int 0, .int 0, .int 0, .int 0])), (na 1, .inr (4, [.ref (na 4), .ref (na 5), .ref (na 6), .ref (na 7), .ref (na 8), .ref (na 9), .ref (na 10), .ref (na 11), .ref (na 12), .ref (na 13), .ref (na 14), .ref (na 15), .int 0, .int 0, .int 0, .int 0, .int 0, .int 0, .int 5, .int 0]))] H := hP
  have hD : va_D A [(na 2, .inr (2, [.ref (na 16), .ref (na 17), .ref (na 18), .ref (na 19), .ref (na 20), .int 0, .int 0, .int 0, .int 0, .int 0, .int 0, .int 0, .int 0])), (na 1, .inr (4, [.ref (na 4), .ref (na 5), .ref (na 6), .ref (na 7), .ref (na 8), .ref (na 9), .ref (na 10), .ref (na 11), .ref (na 12), .ref (na 13), .ref (na 14), .ref (na 15), .int 0, .int 0, .int 0, .int 0, .int 0, .int 0, .int 5, .int 0]))] := hD
  refine lv_aload_n hx hb dX2_passNight_5 rfl (lv_at hl 0 rfl) ?_
  refine lv_aload_n hx hb dX2_passNight_6 rfl (lv_at hl 1 rfl) ?_
  have hPc := hP.sub (ws' := [(na 2, .inr (2, [.ref (na 16), .ref (na 17), .ref (na 18), .ref (na 19), .ref (na 20), .int 0, .int 0, .int 0, .int 0, .int 0, .int 0, .int 0, .int 0])), (na 1, .inr (4, [.ref (na 4), .ref (na 5), .ref (na 6), .ref (na 7), .ref (na 8), .ref (na 9), .ref (na 10), .ref (na 11), .ref (na 12), .ref (na 13), .ref (na 14), .ref (na 15), .int 0, .int 0, .int 0, .int 0, .int 0, .int 0, .int 5, .int 0]))]) [0, 1] rfl
  have hDc := hD.sub (ws' := [(na 2, .inr (2, [.ref (na 16), .ref (na 17), .ref (na 18), .ref (na 19), .ref (na 20), .int 0, .int 0, .int 0, .int 0, .int 0, .int 0, .int 0, .int 0])), (na 1, .inr (4, [.ref (na 4), .ref (na 5), .ref (na 6), .ref (na 7), .ref (na 8), .ref (na 9), .ref (na 10), .ref (na 11), .ref (na 12), .ref (na 13), .ref (na 14), .ref (na 15), .int 0, .int 0, .int 0, .int 0, .int 0, .int 0, .int 5, .int 0]))]) [0, 1] (by decide) rfl
  have hFc := va_free (wc := [(na 2, .inr (2, [.ref (na 16), .ref (na 17), .ref (na 18), .ref (na 19), .ref (na 20), .int 0, .int 0, .int 0, .int 0, .int 0, .int 0, .int 0, .int 0])), (na 1, .inr (4, [.ref (na 4), .ref (na 5), .ref (na 6), .ref (na 7), .ref (na 8), .ref (na 9), .ref (na 10), .ref (na 11), .ref (na 12), .ref (na 13), .ref (na 14), .ref (na 15), .int 0, .int 0, .int 0, .int 0, .int 0, .int 0, .int 5, .int 0]))]) hD hS hA [0, 1] rfl
  refine va_callv (va_runV (As := [.ref (na 1)]) (rest := []) ⟨hx, hb, hml, hown, hts⟩ (c_meltSnow l D kc H.size na) (cwV 1 hts gc_passNight_101_c_meltSnow rfl rfl rfl (by decide +kernel) ⟨Nat.le_of_ble_eq_true rfl, Nat.le_of_ble_eq_true rfl⟩) (preV_ok hPc hDc hE (ci := 2) (q0 := 0) rfl rfl) rfl rfl hl.1 rfl (lv_room (Nat.le_of_ble_eq_true rfl)) dX2_passNight_7 ⟨Nat.le_of_ble_eq_true rfl, Nat.le_of_ble_eq_true rfl⟩) hS (fun q _ h => hFc q h) hFc (fun u9 t9 H locs ht hvm hw hB hz1 hk1 hS => ?_)
  obtain ⟨hP1, hD1⟩ := hB
  rw [ht] at hP1
  obtain ⟨hP, hD⟩ := va_join (wr := []) (w1 := [(na 2, .inr (2, [.ref (na 16), .ref (na 17), .ref (na 18), .ref (na 19), .ref (na 20), .int 0, .int 0, .int 0, .int 0, .int 0, .int 0, .int 0, .int 0])), (na 1, .inr (4, [.ref (na 4), .ref (na 5), .ref (na 6), .ref (na 7), .ref (na 8), .ref (na 9), .ref (na 10), .ref (na 11), .ref (na 12), .ref (na 13), .ref (na 14), .ref (na 15), .int 0, .int 0, .int 0, .int 0, .int 0, .int 0, .int 5, .int 0]))]) hP hD [0, 1] [] rfl rfl (by decide) (by decide) hk1 hFc hP1 hD1
  have hP : va_P D vwCl [(na 2, .inr (2, [.ref (na 16), .ref (na 17), .ref (na 18), .ref (na 19), .ref (na 20), .int 0, .int 0, .int 0, .int 0, .int 0, .int 0, .int 0, .int 0])), (na 1, .inr (4, [.ref (na 4), .ref (na 5), .ref (na 6), .ref (na 7), .ref (na 8), .ref (na 9), .ref (na 10), .ref (na 11), .ref (na 12), .ref (na 13), .ref (na 14), .ref (na 15), .int 0, .int 0, .int 0, .int 0, .int 0, .int 0, .int 5, .int 0]))] H := hP
  have hD : va_D A [(na 2, .inr (2, [.ref (na 16), .ref (na 17), .ref (na 18), .ref (na 19), .ref (na 20), .int 0, .int 0, .int 0, .int 0, .int 0, .int 0, .int 0, .int 0])), (na 1, .inr (4, [.ref (na 4), .ref (na 5), .ref (na 6), .ref (na 7), .ref (na 8), .ref (na 9), .ref (na 10), .ref (na 11), .ref (na 12), .ref (na 13), .ref (na 14), .ref (na 15), .int 0, .int 0, .int 0, .int 0, .int 0, .int 0, .int 5, .int 0]))] := hD
  refine lv_aload_n hx hb dX2_passNight_10 rfl (lv_at hl 1 rfl) ?_
  refine lv_aload_n hx hb dX2_passNight_11 rfl (lv_at hl 0 rfl) ?_
  refine lv_iconst (v := (-1)) hx hb dX2_passNight_12 (by decide) ?_
  have hPc := hP.sub (ws' := [(na 1, .inr (4, [.ref (na 4), .ref (na 5), .ref (na 6), .ref (na 7), .ref (na 8), .ref (na 9), .ref (na 10), .ref (na 11), .ref (na 12), .ref (na 13), .ref (na 14), .ref (na 15), .int 0, .int 0, .int 0, .int 0, .int 0, .int 0, .int 5, .int 0])), (na 2, .inr (2, [.ref (na 16), .ref (na 17), .ref (na 18), .ref (na 19), .ref (na 20), .int 0, .int 0, .int 0, .int 0, .int 0, .int 0, .int 0, .int 0]))]) [1, 0] rfl
  have hDc := hD.sub (ws' := [(na 1, .inr (4, [.ref (na 4), .ref (na 5), .ref (na 6), .ref (na 7), .ref (na 8), .ref (na 9), .ref (na 10), .ref (na 11), .ref (na 12), .ref (na 13), .ref (na 14), .ref (na 15), .int 0, .int 0, .int 0, .int 0, .int 0, .int 0, .int 5, .int 0])), (na 2, .inr (2, [.ref (na 16), .ref (na 17), .ref (na 18), .ref (na 19), .ref (na 20), .int 0, .int 0, .int 0, .int 0, .int 0, .int 0, .int 0, .int 0]))]) [1, 0] (by decide) rfl
  have hFc := va_free (wc := [(na 1, .inr (4, [.ref (na 4), .ref (na 5), .ref (na 6), .ref (na 7), .ref (na 8), .ref (na 9), .ref (na 10), .ref (na 11), .ref (na 12), .ref (na 13), .ref (na 14), .ref (na 15), .int 0, .int 0, .int 0, .int 0, .int 0, .int 0, .int 5, .int 0])), (na 2, .inr (2, [.ref (na 16), .ref (na 17), .ref (na 18), .ref (na 19), .ref (na 20), .int 0, .int 0, .int 0, .int 0, .int 0, .int 0, .int 0, .int 0]))]) hD hS hA [1, 0] rfl
  refine va_calli (va_runS (As := [.ref (na 1), .ref (na 2), .int (-1)]) (rest := []) ⟨hx, hb, hml, hown, hts⟩ (c_atPeace l D kc H.size na (-1) 0) (va_cwS 3 hts gc_passNight_104_c_atPeace rfl rfl rfl (by decide +kernel) ⟨Nat.le_of_ble_eq_true rfl, Nat.le_of_ble_eq_true rfl⟩) (preS_ok hPc hDc hE) rfl rfl hl.1 rfl (lv_room (Nat.le_of_ble_eq_true rfl)) dX2_passNight_13 ⟨Nat.le_of_ble_eq_true rfl, Nat.le_of_ble_eq_true rfl⟩) hS (fun q _ h => hFc q h) hFc (fun r_13 u9 t9 H locs ht hvm hw hB hz1 hk1 hS => ?_)
  obtain ⟨hP1, hD1⟩ := hB
  rw [ht] at hP1
  obtain ⟨hP, hD⟩ := va_join (wr := []) (w1 := [(na 1, .inr (4, [.ref (na 4), .ref (na 5), .ref (na 6), .ref (na 7), .ref (na 8), .ref (na 9), .ref (na 10), .ref (na 11), .ref (na 12), .ref (na 13), .ref (na 14), .ref (na 15), .int 0, .int 0, .int 0, .int 0, .int 0, .int 0, .int 5, .int 0])), (na 2, .inr (2, [.ref (na 16), .ref (na 17), .ref (na 18), .ref (na 19), .ref (na 20), .int 0, .int 0, .int 0, .int 0, .int 0, .int 0, .int 0, .int 0]))]) hP hD [1, 0] [] rfl rfl (by decide) (by decide) hk1 hFc hP1 hD1
  have hP : va_P D vwCl [(na 1, .inr (4, [.ref (na 4), .ref (na 5), .ref (na 6), .ref (na 7), .ref (na 8), .ref (na 9), .ref (na 10), .ref (na 11), .ref (na 12), .ref (na 13), .ref (na 14), .ref (na 15), .int 0, .int 0, .int 0, .int 0, .int 0, .int 0, .int 5, .int 0])), (na 2, .inr (2, [.ref (na 16), .ref (na 17), .ref (na 18), .ref (na 19), .ref (na 20), .int 0, .int 0, .int 0, .int 0, .int 0, .int 0, .int 0, .int 0]))] H := hP
  have hD : va_D A [(na 1, .inr (4, [.ref (na 4), .ref (na 5), .ref (na 6), .ref (na 7), .ref (na 8), .ref (na 9), .ref (na 10), .ref (na 11), .ref (na 12), .ref (na 13), .ref (na 14), .ref (na 15), .int 0, .int 0, .int 0, .int 0, .int 0, .int 0, .int 5, .int 0])), (na 2, .inr (2, [.ref (na 16), .ref (na 17), .ref (na 18), .ref (na 19), .ref (na 20), .int 0, .int 0, .int 0, .int 0, .int 0, .int 0, .int 0, .int 0]))] := hD
  subst hw
  refine lv_istore_n (lv' := [(2, .int 0), (0, .ref (na 2)), (1, .ref (na 1))]) hx hb dX2_passNight_16 rfl hl (by decide) rfl (fun ls hl => ?_)
  refine lv_aload_n hx hb dX2_passNight_17 rfl (lv_at hl 1 rfl) ?_
  refine lv_aload_n hx hb dX2_passNight_18 rfl (lv_at hl 1 rfl) ?_
  refine va_get (D := D) (ci := 2) (v := .int 0) (C := RX2) (T := TX2) (N := 13) hx hb hts ic_passNight_X2 hown hK hP 1 rfl rfl 7 (by decide) (hts (.fieldLink RX2 38 "SaltStreet$Ground" "rained" "Z") (List.mem_of_getElem? (i := 20) rfl)) (fun _ h9 => h9) rfl dX2_passNight_19 ?_
  refine lv_if_eq (tgt := 29) hx hb dX2_passNight_22 (by decide) (fun _ => ?_) (fun h => absurd (by decide) h)
  refine lv_aload_n hx hb dX2_passNight_29 rfl (lv_at hl 1 rfl) ?_
  refine va_get (D := D) (ci := 2) (v := .int 0) (C := RX2) (T := TX2) (N := 13) hx hb hts ic_passNight_X2 hown hK hP 1 rfl rfl 5 (by decide) (hts (.fieldLink RX2 31 "SaltStreet$Ground" "over" "I") (List.mem_of_getElem? (i := 21) rfl)) (fun _ h9 => h9) rfl dX2_passNight_30 ?_
  refine lv_iload_n hx hb dX2_passNight_33 rfl (lv_at hl 0 rfl) ?_
  refine lv_ior hx hb dX2_passNight_34 ?_
  refine lv_ci (y := 0) (by decide) ?_
  refine va_put (D := D) (ci := 2) (v := .int 0) (ty := .int) (C := RX2) (T := TX2) (N := 13) hx hb hts ic_passNight_X2 tyX2 tyX2_ok nmX2 hown hK hP hD hS 1 rfl rfl 5 (by decide) (hts (.fieldLink RX2 31 "SaltStreet$Ground" "over" "I") (List.mem_of_getElem? (i := 21) rfl)) (fun _ h9 => h9) rfl (by decide +kernel) rfl rfl (Nat.le_of_ble_eq_true rfl) dX2_passNight_35 (fun H locs hP hD hS => ?_)
  have hP : va_P D vwCl [(na 1, .inr (4, [.ref (na 4), .ref (na 5), .ref (na 6), .ref (na 7), .ref (na 8), .ref (na 9), .ref (na 10), .ref (na 11), .ref (na 12), .ref (na 13), .ref (na 14), .ref (na 15), .int 0, .int 0, .int 0, .int 0, .int 0, .int 0, .int 5, .int 0])), (na 2, .inr (2, [.ref (na 16), .ref (na 17), .ref (na 18), .ref (na 19), .ref (na 20), .int 0, .int 0, .int 0, .int 0, .int 0, .int 0, .int 0, .int 0]))] H := hP
  have hD : va_D A [(na 1, .inr (4, [.ref (na 4), .ref (na 5), .ref (na 6), .ref (na 7), .ref (na 8), .ref (na 9), .ref (na 10), .ref (na 11), .ref (na 12), .ref (na 13), .ref (na 14), .ref (na 15), .int 0, .int 0, .int 0, .int 0, .int 0, .int 0, .int 5, .int 0])), (na 2, .inr (2, [.ref (na 16), .ref (na 17), .ref (na 18), .ref (na 19), .ref (na 20), .int 0, .int 0, .int 0, .int 0, .int 0, .int 0, .int 0, .int 0]))] := hD
  refine lv_aload_n hx hb dX2_passNight_38 rfl (lv_at hl 1 rfl) ?_
  refine lv_aload_n hx hb dX2_passNight_39 rfl (lv_at hl 2 rfl) ?_
  have hPc := hP.sub (ws' := [(na 2, .inr (2, [.ref (na 16), .ref (na 17), .ref (na 18), .ref (na 19), .ref (na 20), .int 0, .int 0, .int 0, .int 0, .int 0, .int 0, .int 0, .int 0])), (na 1, .inr (4, [.ref (na 4), .ref (na 5), .ref (na 6), .ref (na 7), .ref (na 8), .ref (na 9), .ref (na 10), .ref (na 11), .ref (na 12), .ref (na 13), .ref (na 14), .ref (na 15), .int 0, .int 0, .int 0, .int 0, .int 0, .int 0, .int 5, .int 0]))]) [1, 0] rfl
  have hDc := hD.sub (ws' := [(na 2, .inr (2, [.ref (na 16), .ref (na 17), .ref (na 18), .ref (na 19), .ref (na 20), .int 0, .int 0, .int 0, .int 0, .int 0, .int 0, .int 0, .int 0])), (na 1, .inr (4, [.ref (na 4), .ref (na 5), .ref (na 6), .ref (na 7), .ref (na 8), .ref (na 9), .ref (na 10), .ref (na 11), .ref (na 12), .ref (na 13), .ref (na 14), .ref (na 15), .int 0, .int 0, .int 0, .int 0, .int 0, .int 0, .int 5, .int 0]))]) [1, 0] (by decide) rfl
  have hFc := va_free (wc := [(na 2, .inr (2, [.ref (na 16), .ref (na 17), .ref (na 18), .ref (na 19), .ref (na 20), .int 0, .int 0, .int 0, .int 0, .int 0, .int 0, .int 0, .int 0])), (na 1, .inr (4, [.ref (na 4), .ref (na 5), .ref (na 6), .ref (na 7), .ref (na 8), .ref (na 9), .ref (na 10), .ref (na 11), .ref (na 12), .ref (na 13), .ref (na 14), .ref (na 15), .int 0, .int 0, .int 0, .int 0, .int 0, .int 0, .int 5, .int 0]))]) hD hS hA [1, 0] rfl
  refine va_callv (va_runV (As := [.ref (na 1)]) (rest := []) ⟨hx, hb, hml, hown, hts⟩ (c_countWar l D kc H.size na) (cwV 1 hts gc_passNight_110_c_countWar rfl rfl rfl (by decide +kernel) ⟨Nat.le_of_ble_eq_true rfl, Nat.le_of_ble_eq_true rfl⟩) (preV_ok hPc hDc hE (ci := 2) (q0 := 0) rfl rfl) rfl rfl hl.1 rfl (lv_room (Nat.le_of_ble_eq_true rfl)) dX2_passNight_40 ⟨Nat.le_of_ble_eq_true rfl, Nat.le_of_ble_eq_true rfl⟩) hS (fun q _ h => hFc q h) hFc (fun u9 t9 H locs ht hvm hw hB hz1 hk1 hS => ?_)
  obtain ⟨hP1, hD1⟩ := hB
  rw [ht] at hP1
  obtain ⟨hP, hD⟩ := va_join (wr := []) (w1 := [(na 2, .inr (2, [.ref (na 16), .ref (na 17), .ref (na 18), .ref (na 19), .ref (na 20), .int 0, .int 0, .int 0, .int 0, .int 0, .int 0, .int 0, .int 0])), (na 1, .inr (4, [.ref (na 4), .ref (na 5), .ref (na 6), .ref (na 7), .ref (na 8), .ref (na 9), .ref (na 10), .ref (na 11), .ref (na 12), .ref (na 13), .ref (na 14), .ref (na 15), .int 0, .int 0, .int 0, .int 0, .int 0, .int 0, .int 5, .int 0]))]) hP hD [1, 0] [] rfl rfl (by decide) (by decide) hk1 hFc hP1 hD1
  have hP : va_P D vwCl [(na 2, .inr (2, [.ref (na 16), .ref (na 17), .ref (na 18), .ref (na 19), .ref (na 20), .int 0, .int 0, .int 0, .int 0, .int 0, .int 0, .int 0, .int 0])), (na 1, .inr (4, [.ref (na 4), .ref (na 5), .ref (na 6), .ref (na 7), .ref (na 8), .ref (na 9), .ref (na 10), .ref (na 11), .ref (na 12), .ref (na 13), .ref (na 14), .ref (na 15), .int 0, .int 0, .int 0, .int 0, .int 0, .int 0, .int 5, .int 0]))] H := hP
  have hD : va_D A [(na 2, .inr (2, [.ref (na 16), .ref (na 17), .ref (na 18), .ref (na 19), .ref (na 20), .int 0, .int 0, .int 0, .int 0, .int 0, .int 0, .int 0, .int 0])), (na 1, .inr (4, [.ref (na 4), .ref (na 5), .ref (na 6), .ref (na 7), .ref (na 8), .ref (na 9), .ref (na 10), .ref (na 11), .ref (na 12), .ref (na 13), .ref (na 14), .ref (na 15), .int 0, .int 0, .int 0, .int 0, .int 0, .int 0, .int 5, .int 0]))] := hD
  refine lv_aload_n hx hb dX2_passNight_43 rfl (lv_at hl 1 rfl) ?_
  refine lv_sipush (v := 999) hx hb dX2_passNight_44 (by decide) ?_
  refine lv_aload_n hx hb dX2_passNight_47 rfl (lv_at hl 1 rfl) ?_
  refine va_get (D := D) (ci := 2) (v := .int 0) (C := RX2) (T := TX2) (N := 13) hx hb hts ic_passNight_X2 hown hK hP 0 rfl rfl 6 (by decide) (hts (.fieldLink RX2 35 "SaltStreet$Ground" "day" "I") (List.mem_of_getElem? (i := 26) rfl)) (fun _ h9 => h9) rfl dX2_passNight_48 ?_
  refine lv_iconst (v := 1) hx hb dX2_passNight_51 (by decide) ?_
  refine lv_iadd hx hb dX2_passNight_52 ?_
  refine lv_ci (y := 1) (by decide) ?_
  refine va_mmin hx hb (by rw [hml, hl.1]) hown (hts (.methodLink RX2 84 Lib.Math.min.name) (List.mem_of_getElem? (i := 27) rfl)) (hts (.static Lib.Math.min.name) (List.mem_of_getElem? (i := 28) rfl)) (hts (.initialized "java/lang/Math") (List.mem_of_getElem? (i := 29) rfl)) (hts (.code Lib.Math.min.name Lib.Math.min.code 2 (some .int)) (List.mem_of_getElem? (i := 30) rfl)) (Nat.le_of_ble_eq_true rfl) (Nat.le_of_ble_eq_true rfl) (Nat.le_of_ble_eq_true rfl) (Nat.le_of_ble_eq_true rfl) dX2_passNight_53 ?_
  refine lv_ci (y := 1) (by decide) ?_
  refine va_put (D := D) (ci := 2) (v := .int 1) (ty := .int) (C := RX2) (T := TX2) (N := 13) hx hb hts ic_passNight_X2 tyX2 tyX2_ok nmX2 hown hK hP hD hS 0 rfl rfl 6 (by decide) (hts (.fieldLink RX2 35 "SaltStreet$Ground" "day" "I") (List.mem_of_getElem? (i := 26) rfl)) (fun _ h9 => h9) rfl (by decide +kernel) rfl rfl (Nat.le_of_ble_eq_true rfl) dX2_passNight_56 (fun H locs hP hD hS => ?_)
  have hP : va_P D vwCl [(na 2, .inr (2, [.ref (na 16), .ref (na 17), .ref (na 18), .ref (na 19), .ref (na 20), .int 0, .int 1, .int 0, .int 0, .int 0, .int 0, .int 0, .int 0])), (na 1, .inr (4, [.ref (na 4), .ref (na 5), .ref (na 6), .ref (na 7), .ref (na 8), .ref (na 9), .ref (na 10), .ref (na 11), .ref (na 12), .ref (na 13), .ref (na 14), .ref (na 15), .int 0, .int 0, .int 0, .int 0, .int 0, .int 0, .int 5, .int 0]))] H := hP
  have hD : va_D A [(na 2, .inr (2, [.ref (na 16), .ref (na 17), .ref (na 18), .ref (na 19), .ref (na 20), .int 0, .int 1, .int 0, .int 0, .int 0, .int 0, .int 0, .int 0])), (na 1, .inr (4, [.ref (na 4), .ref (na 5), .ref (na 6), .ref (na 7), .ref (na 8), .ref (na 9), .ref (na 10), .ref (na 11), .ref (na 12), .ref (na 13), .ref (na 14), .ref (na 15), .int 0, .int 0, .int 0, .int 0, .int 0, .int 0, .int 5, .int 0]))] := hD
  refine lv_aload_n hx hb dX2_passNight_59 rfl (lv_at hl 1 rfl) ?_
  refine lv_iconst (v := 0) hx hb dX2_passNight_60 (by decide) ?_
  refine va_put (D := D) (ci := 2) (v := .int 0) (ty := .boolean) (C := RX2) (T := TX2) (N := 13) hx hb hts ic_passNight_X2 tyX2 tyX2_ok nmX2 hown hK hP hD hS 0 rfl rfl 7 (by decide) (hts (.fieldLink RX2 38 "SaltStreet$Ground" "rained" "Z") (List.mem_of_getElem? (i := 20) rfl)) (fun _ h9 => h9) rfl (by decide +kernel) rfl rfl (Nat.le_of_ble_eq_true rfl) dX2_passNight_61 (fun H locs hP hD hS => ?_)
  have hP : va_P D vwCl [(na 2, .inr (2, [.ref (na 16), .ref (na 17), .ref (na 18), .ref (na 19), .ref (na 20), .int 0, .int 1, .int 0, .int 0, .int 0, .int 0, .int 0, .int 0])), (na 1, .inr (4, [.ref (na 4), .ref (na 5), .ref (na 6), .ref (na 7), .ref (na 8), .ref (na 9), .ref (na 10), .ref (na 11), .ref (na 12), .ref (na 13), .ref (na 14), .ref (na 15), .int 0, .int 0, .int 0, .int 0, .int 0, .int 0, .int 5, .int 0]))] H := hP
  have hD : va_D A [(na 2, .inr (2, [.ref (na 16), .ref (na 17), .ref (na 18), .ref (na 19), .ref (na 20), .int 0, .int 1, .int 0, .int 0, .int 0, .int 0, .int 0, .int 0])), (na 1, .inr (4, [.ref (na 4), .ref (na 5), .ref (na 6), .ref (na 7), .ref (na 8), .ref (na 9), .ref (na 10), .ref (na 11), .ref (na 12), .ref (na 13), .ref (na 14), .ref (na 15), .int 0, .int 0, .int 0, .int 0, .int 0, .int 0, .int 5, .int 0]))] := hD
  have hP9 := hP.sub (ws' := [(na 2, .inr (2, [.ref (na 16), .ref (na 17), .ref (na 18), .ref (na 19), .ref (na 20), .int 0, .int 1, .int 0, .int 0, .int 0, .int 0, .int 0, .int 0])), (na 1, .inr (4, [.ref (na 4), .ref (na 5), .ref (na 6), .ref (na 7), .ref (na 8), .ref (na 9), .ref (na 10), .ref (na 11), .ref (na 12), .ref (na 13), .ref (na 14), .ref (na 15), .int 0, .int 0, .int 0, .int 0, .int 0, .int 0, .int 5, .int 0]))]) [0, 1] rfl
  have hD9 := hD.sub (ws' := [(na 2, .inr (2, [.ref (na 16), .ref (na 17), .ref (na 18), .ref (na 19), .ref (na 20), .int 0, .int 1, .int 0, .int 0, .int 0, .int 0, .int 0, .int 0])), (na 1, .inr (4, [.ref (na 4), .ref (na 5), .ref (na 6), .ref (na 7), .ref (na 8), .ref (na 9), .ref (na 10), .ref (na 11), .ref (na 12), .ref (na 13), .ref (na 14), .ref (na 15), .int 0, .int 0, .int 0, .int 0, .int 0, .int 0, .int 5, .int 0]))]) [0, 1] (by decide) rfl
  exact W.vret hx hb hr (fun t9 ht hW => ⟨⟨(), rfl, trivial, ⟨by rw [ht]; exact hP9, hD9⟩⟩, hS.F ht⟩) hS.2.2 dX2_passNight_64
