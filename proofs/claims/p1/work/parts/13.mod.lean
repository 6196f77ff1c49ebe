theorem dX12_status_0 : decode cX12_status 0 = .ok (.aload_n 0, 1) := by decide +kernel
theorem dX12_status_1 : decode cX12_status 1 = .ok (.getfield 66, 3) := by decide +kernel
theorem dX12_status_4 : decode cX12_status 4 = .ok (.ireturn, 1) := by decide +kernel
def vdq_status : List Cond := [.code yX12_status cX12_status 1 (some .int), .fieldLink RX12 66 "SaltStreetModel" "status" "I"]
def vq_status : List Cond := vdq_status ++ (wsX120 ++ ([] : List Cond))
theorem iq_status_X12 : ∀ w ∈ wsX120, w ∈ vq_status := fun _ h => List.mem_append_right _ (List.mem_append_left _ h)
set_option maxHeartbeats 4000000 in
set_option maxRecDepth 100000 in
theorem q_status (l : Launch) (D : va_G) (kc : Nat → ClassId) (sz : Nat) (ma : Nat → Nat) : Met l yX12_status vq_status ({ frames := 0, cells := 0, slots := 0, locals := 0 }) (va_Pc [.ref (ma 0)] (wPre D kc [(ma 0, .inr (11, [.ref (ma 1), .ref (ma 2), .int 0, .long 0, .long 1, .ref (ma 3), .ref (ma 4), .ref (ma 5), .ref (ma 6), .ref (ma 7), .int 0, .int 0, .int 0, .int 0, .int 0, .int 0, .int (-1), .int (-1), .int 0, .int 0, .int 0, .ref (ma 8), .int 0, .int 0, .int (-1), .int 0, .int 0, .int 0, .ref (ma 9), .int 0, .int 0, .ref (ma 10), .ref (ma 11), .ref (ma 12), .int 0, .int 0]))] sz)) (va_Qi (fun (r : Int32) (_ : Unit) => r = 0) wAny (va_A [(ma 0, .inr (11, [.ref (ma 1), .ref (ma 2), .int 0, .long 0, .long 1, .ref (ma 3), .ref (ma 4), .ref (ma 5), .ref (ma 6), .ref (ma 7), .int 0, .int 0, .int 0, .int 0, .int 0, .int 0, .int (-1), .int (-1), .int 0, .int 0, .int 0, .ref (ma 8), .int 0, .int 0, .int (-1), .int 0, .int 0, .int 0, .ref (ma 9), .int 0, .int 0, .ref (ma 10), .ref (ma 11), .ref (ma 12), .int 0, .int 0]))] sz)) 0 0 (va_A [(ma 0, .inr (11, [.ref (ma 1), .ref (ma 2), .int 0, .long 0, .long 1, .ref (ma 3), .ref (ma 4), .ref (ma 5), .ref (ma 6), .ref (ma 7), .int 0, .int 0, .int 0, .int 0, .int 0, .int 0, .int (-1), .int (-1), .int 0, .int 0, .int 0, .ref (ma 8), .int 0, .int 0, .int (-1), .int 0, .int 0, .int 0, .ref (ma 9), .int 0, .int 0, .ref (ma 10), .ref (ma 11), .ref (ma 12), .int 0, .int 0]))] sz) := by
  refine Met.ofW (cc := cX12_status) (maxL := 1) (ret := (some .int)) (by decide) rfl ?_
  intro p e s m args below meth c s₁ B hml hv
  obtain ⟨rfl, hsz, hP, hE, hD0⟩ := hv
  have hx := B.exec
  have hb := B.bytes
  have hr := B.returns
  have hts := atoms_spec (ws := vq_status) B.pre
  have hown : s.vm.findClass RX12 = some m.cls := findClass_of_methodNamed B.named
  have hlocks := B.notSynchronized
  subst hsz
  have hD := hD0.self (sz := s.heap.size)
  generalize hAe : va_A [(ma 0, .inr (11, [.ref (ma 1), .ref (ma 2), .int 0, .long 0, .long 1, .ref (ma 3), .ref (ma 4), .ref (ma 5), .ref (ma 6), .ref (ma 7), .int 0, .int 0, .int 0, .int 0, .int 0, .int 0, .int (-1), .int (-1), .int 0, .int 0, .int 0, .ref (ma 8), .int 0, .int 0, .int (-1), .int 0, .int 0, .int 0, .ref (ma 9), .int 0, .int 0, .ref (ma 10), .ref (ma 11), .ref (ma 12), .int 0, .int 0]))] s.heap.size = A at hD ⊢
  have hA : ∀ q : Nat, s.heap.size ≤ q → A q := fun q h => by rw [← hAe]; exact Or.inr h
  have hS : va_S A s.heap s.heap [] := va_S.rf
  have hK := hE.1
  have hP : va_P D vwCl [(ma 0, .inr (11, [.ref (ma 1), .ref (ma 2), .int 0, .long 0, .long 1, .ref (ma 3), .ref (ma 4), .ref (ma 5), .ref (ma 6), .ref (ma 7), .int 0, .int 0, .int 0, .int 0, .int 0, .int 0, .int (-1), .int (-1), .int 0, .int 0, .int 0, .ref (ma 8), .int 0, .int 0, .int (-1), .int 0, .int 0, .int 0, .ref (ma 9), .int 0, .int 0, .ref (ma 10), .ref (ma 11), .ref (ma 12), .int 0, .int 0]))] s.heap := hP
  have hl := lv_entry ([.ref (ma 0)]) (n := 1) (Nat.le_of_ble_eq_true rfl)
  rw [lg_entry_eq]
  generalize (lg_sl ([.ref (ma 0)]) ++ List.replicate (1 - (lg_sl ([.ref (ma 0)])).length) Slot.unset).toArray = ls at hl ⊢
  have hl : lv_has ls 1 [(0, .ref (ma 0))] := hl
  refine lv_aload_n hx hb dX12_status_0 rfl (lv_at hl 0 rfl) ?_
  refine va_get (D := D) (ci := 11) (v := .int 0) (C := RX12) (T := TX12) (N := 36) hx hb hts iq_status_X12 hown hK hP 0 rfl rfl 2 (by decide) (hts (.fieldLink RX12 66 "SaltStreetModel" "status" "I") (List.mem_of_getElem? (i := 1) rfl)) (fun _ h9 => h9) rfl dX12_status_1 ?_
  exact W.iret (v := 0) hx hb hr (fun t9 ht hW => ⟨⟨0, (), rfl, rfl, trivial⟩, hS.F ht⟩) hS.2.2 dX12_status_4
theorem dX12_top_0 : decode cX12_top 0 = .ok (.aload_n 0, 1) := by decide +kernel
theorem dX12_top_1 : decode cX12_top 1 = .ok (.getfield 69, 3) := by decide +kernel
theorem dX12_top_4 : decode cX12_top 4 = .ok (.lreturn, 1) := by decide +kernel
def vdq_top : List Cond := [.code yX12_top cX12_top 1 (some .long), .fieldLink RX12 69 "SaltStreetModel" "top" "J"]
def vq_top : List Cond := vdq_top ++ (wsX120 ++ ([] : List Cond))
theorem iq_top_X12 : ∀ w ∈ wsX120, w ∈ vq_top := fun _ h => List.mem_append_right _ (List.mem_append_left _ h)
set_option maxHeartbeats 4000000 in
set_option maxRecDepth 100000 in
theorem q_top (l : Launch) (D : va_G) (kc : Nat → ClassId) (sz : Nat) (ma : Nat → Nat) : Met l yX12_top vq_top ({ frames := 0, cells := 0, slots := 0, locals := 0 }) (va_Pc [.ref (ma 0)] (wPre D kc [(ma 0, .inr (11, [.ref (ma 1), .ref (ma 2), .int 0, .long 0, .long 1, .ref (ma 3), .ref (ma 4), .ref (ma 5), .ref (ma 6), .ref (ma 7), .int 0, .int 0, .int 0, .int 0, .int 0, .int 0, .int (-1), .int (-1), .int 0, .int 0, .int 0, .ref (ma 8), .int 0, .int 0, .int (-1), .int 0, .int 0, .int 0, .ref (ma 9), .int 0, .int 0, .ref (ma 10), .ref (ma 11), .ref (ma 12), .int 0, .int 0]))] sz)) (va_Ql (fun (r : Int64) (_ : Unit) => r = 0) wAny (va_A [(ma 0, .inr (11, [.ref (ma 1), .ref (ma 2), .int 0, .long 0, .long 1, .ref (ma 3), .ref (ma 4), .ref (ma 5), .ref (ma 6), .ref (ma 7), .int 0, .int 0, .int 0, .int 0, .int 0, .int 0, .int (-1), .int (-1), .int 0, .int 0, .int 0, .ref (ma 8), .int 0, .int 0, .int (-1), .int 0, .int 0, .int 0, .ref (ma 9), .int 0, .int 0, .ref (ma 10), .ref (ma 11), .ref (ma 12), .int 0, .int 0]))] sz)) 0 0 (va_A [(ma 0, .inr (11, [.ref (ma 1), .ref (ma 2), .int 0, .long 0, .long 1, .ref (ma 3), .ref (ma 4), .ref (ma 5), .ref (ma 6), .ref (ma 7), .int 0, .int 0, .int 0, .int 0, .int 0, .int 0, .int (-1), .int (-1), .int 0, .int 0, .int 0, .ref (ma 8), .int 0, .int 0, .int (-1), .int 0, .int 0, .int 0, .ref (ma 9), .int 0, .int 0, .ref (ma 10), .ref (ma 11), .ref (ma 12), .int 0, .int 0]))] sz) := by
  refine Met.ofW (cc := cX12_top) (maxL := 1) (ret := (some .long)) (by decide) rfl ?_
  intro p e s m args below meth c s₁ B hml hv
  obtain ⟨rfl, hsz, hP, hE, hD0⟩ := hv
  have hx := B.exec
  have hb := B.bytes
  have hr := B.returns
  have hts := atoms_spec (ws := vq_top) B.pre
  have hown : s.vm.findClass RX12 = some m.cls := findClass_of_methodNamed B.named
  have hlocks := B.notSynchronized
  subst hsz
  have hD := hD0.self (sz := s.heap.size)
  generalize hAe : va_A [(ma 0, .inr (11, [.ref (ma 1), .ref (ma 2), .int 0, .long 0, .long 1, .ref (ma 3), .ref (ma 4), .ref (ma 5), .ref (ma 6), .ref (ma 7), .int 0, .int 0, .int 0, .int 0, .int 0, .int 0, .int (-1), .int (-1), .int 0, .int 0, .int 0, .ref (ma 8), .int 0, .int 0, .int (-1), .int 0, .int 0, .int 0, .ref (ma 9), .int 0, .int 0, .ref (ma 10), .ref (ma 11), .ref (ma 12), .int 0, .int 0]))] s.heap.size = A at hD ⊢
  have hA : ∀ q : Nat, s.heap.size ≤ q → A q := fun q h => by rw [← hAe]; exact Or.inr h
  have hS : va_S A s.heap s.heap [] := va_S.rf
  have hK := hE.1
  have hP : va_P D vwCl [(ma 0, .inr (11, [.ref (ma 1), .ref (ma 2), .int 0, .long 0, .long 1, .ref (ma 3), .ref (ma 4), .ref (ma 5), .ref (ma 6), .ref (ma 7), .int 0, .int 0, .int 0, .int 0, .int 0, .int 0, .int (-1), .int (-1), .int 0, .int 0, .int 0, .ref (ma 8), .int 0, .int 0, .int (-1), .int 0, .int 0, .int 0, .ref (ma 9), .int 0, .int 0, .ref (ma 10), .ref (ma 11), .ref (ma 12), .int 0, .int 0]))] s.heap := hP
  have hl := lv_entry ([.ref (ma 0)]) (n := 1) (Nat.le_of_ble_eq_true rfl)
  rw [lg_entry_eq]
  generalize (lg_sl ([.ref (ma 0)]) ++ List.replicate (1 - (lg_sl ([.ref (ma 0)])).length) Slot.unset).toArray = ls at hl ⊢
  have hl : lv_has ls 1 [(0, .ref (ma 0))] := hl
  refine lv_aload_n hx hb dX12_top_0 rfl (lv_at hl 0 rfl) ?_
  refine va_get (D := D) (ci := 11) (v := .long 0) (C := RX12) (T := TX12) (N := 36) hx hb hts iq_top_X12 hown hK hP 0 rfl rfl 3 (by decide) (hts (.fieldLink RX12 69 "SaltStreetModel" "top" "J") (List.mem_of_getElem? (i := 1) rfl)) (fun _ h9 => h9) rfl dX12_top_1 ?_
  exact W.lret (v := 0) hx hb hr (fun t9 ht hW => ⟨⟨0, (), rfl, rfl, trivial⟩, hS.F ht⟩) hS.2.2 dX12_top_4
theorem dX12_bottom_0 : decode cX12_bottom 0 = .ok (.aload_n 0, 1) := by decide +kernel
theorem dX12_bottom_1 : decode cX12_bottom 1 = .ok (.getfield 17, 3) := by decide +kernel
theorem dX12_bottom_4 : decode cX12_bottom 4 = .ok (.lreturn, 1) := by decide +kernel
def vdq_bottom : List Cond := [.code yX12_bottom cX12_bottom 1 (some .long), .fieldLink RX12 17 "SaltStreetModel" "bottom" "J"]
def vq_bottom : List Cond := vdq_bottom ++ (wsX120 ++ ([] : List Cond))
theorem iq_bottom_X12 : ∀ w ∈ wsX120, w ∈ vq_bottom := fun _ h => List.mem_append_right _ (List.mem_append_left _ h)
set_option maxHeartbeats 4000000 in
set_option maxRecDepth 100000 in
theorem q_bottom (l : Launch) (D : va_G) (kc : Nat → ClassId) (sz : Nat) (ma : Nat → Nat) : Met l yX12_bottom vq_bottom ({ frames := 0, cells := 0, slots := 0, locals := 0 }) (va_Pc [.ref (ma 0)] (wPre D kc [(ma 0, .inr (11, [.ref (ma 1), .ref (ma 2), .int 0, .long 0, .long 1, .ref (ma 3), .ref (ma 4), .ref (ma 5), .ref (ma 6), .ref (ma 7), .int 0, .int 0, .int 0, .int 0, .int 0, .int 0, .int (-1), .int (-1), .int 0, .int 0, .int 0, .ref (ma 8), .int 0, .int 0, .int (-1), .int 0, .int 0, .int 0, .ref (ma 9), .int 0, .int 0, .ref (ma 10), .ref (ma 11), .ref (ma 12), .int 0, .int 0]))] sz)) (va_Ql (fun (r : Int64) (_ : Unit) => r = 1) wAny (va_A [(ma 0, .inr (11, [.ref (ma 1), .ref (ma 2), .int 0, .long 0, .long 1, .ref (ma 3), .ref (ma 4), .ref (ma 5), .ref (ma 6), .ref (ma 7), .int 0, .int 0, .int 0, .int 0, .int 0, .int 0, .int (-1), .int (-1), .int 0, .int 0, .int 0, .ref (ma 8), .int 0, .int 0, .int (-1), .int 0, .int 0, .int 0, .ref (ma 9), .int 0, .int 0, .ref (ma 10), .ref (ma 11), .ref (ma 12), .int 0, .int 0]))] sz)) 0 0 (va_A [(ma 0, .inr (11, [.ref (ma 1), .ref (ma 2), .int 0, .long 0, .long 1, .ref (ma 3), .ref (ma 4), .ref (ma 5), .ref (ma 6), .ref (ma 7), .int 0, .int 0, .int 0, .int 0, .int 0, .int 0, .int (-1), .int (-1), .int 0, .int 0, .int 0, .ref (ma 8), .int 0, .int 0, .int (-1), .int 0, .int 0, .int 0, .ref (ma 9), .int 0, .int 0, .ref (ma 10), .ref (ma 11), .ref (ma 12), .int 0, .int 0]))] sz) := by
  refine Met.ofW (cc := cX12_bottom) (maxL := 1) (ret := (some .long)) (by decide) rfl ?_
  intro p e s m args below meth c s₁ B hml hv
  obtain ⟨rfl, hsz, hP, hE, hD0⟩ := hv
  have hx := B.exec
  have hb := B.bytes
  have hr := B.returns
  have hts := atoms_spec (ws := vq_bottom) B.pre
  have hown : s.vm.findClass RX12 = some m.cls := findClass_of_methodNamed B.named
  have hlocks := B.notSynchronized
  subst hsz
  have hD := hD0.self (sz := s.heap.size)
  generalize hAe : va_A [(ma 0, .inr (11, [.ref (ma 1), .ref (ma 2), .int 0, .long 0, .long 1, .ref (ma 3), .ref (ma 4), .ref (ma 5), .ref (ma 6), .ref (ma 7), .int 0, .int 0, .int 0, .int 0, .int 0, .int 0, .int (-1), .int (-1), .int 0, .int 0, .int 0, .ref (ma 8), .int 0, .int 0, .int (-1), .int 0, .int 0, .int 0, .ref (ma 9), .int 0, .int 0, .ref (ma 10), .ref (ma 11), .ref (ma 12), .int 0, .int 0]))] s.heap.size = A at hD ⊢
  have hA : ∀ q : Nat, s.heap.size ≤ q → A q := fun q h => by rw [← hAe]; exact Or.inr h
  have hS : va_S A s.heap s.heap [] := va_S.rf
  have hK := hE.1
  have hP : va_P D vwCl [(ma 0, .inr (11, [.ref (ma 1), .ref (ma 2), .int 0, .long 0, .long 1, .ref (ma 3), .ref (ma 4), .ref (ma 5), .ref (ma 6), .ref (ma 7), .int 0, .int 0, .int 0, .int 0, .int 0, .int 0, .int (-1), .int (-1), .int 0, .int 0, .int 0, .ref (ma 8), .int 0, .int 0, .int (-1), .int 0, .int 0, .int 0, .ref (ma 9), .int 0, .int 0, .ref (ma 10), .ref (ma 11), .ref (ma 12), .int 0, .int 0]))] s.heap := hP
  have hl := lv_entry ([.ref (ma 0)]) (n := 1) (Nat.le_of_ble_eq_true rfl)
  rw [lg_entry_eq]
  generalize (lg_sl ([.ref (ma 0)]) ++ List.replicate (1 - (lg_sl ([.ref (ma 0)])).length) Slot.unset).toArray = ls at hl ⊢
  have hl : lv_has ls 1 [(0, .ref (ma 0))] := hl
  refine lv_aload_n hx hb dX12_bottom_0 rfl (lv_at hl 0 rfl) ?_
  refine va_get (D := D) (ci := 11) (v := .long 1) (C := RX12) (T := TX12) (N := 36) hx hb hts iq_bottom_X12 hown hK hP 0 rfl rfl 4 (by decide) (hts (.fieldLink RX12 17 "SaltStreetModel" "bottom" "J") (List.mem_of_getElem? (i := 1) rfl)) (fun _ h9 => h9) rfl dX12_bottom_1 ?_
  exact W.lret (v := 1) hx hb hr (fun t9 ht hW => ⟨⟨1, (), rfl, rfl, trivial⟩, hS.F ht⟩) hS.2.2 dX12_bottom_4
theorem dX12_fault_0 : decode cX12_fault 0 = .ok (.iload_n 1, 1) := by decide +kernel
theorem dX12_fault_1 : decode cX12_fault 1 = .ok (.ifCond .ne 10, 3) := by decide +kernel
theorem dX12_fault_11 : decode cX12_fault 11 = .ok (.iload_n 1, 1) := by decide +kernel
theorem dX12_fault_12 : decode cX12_fault 12 = .ok (.iconst 1, 1) := by decide +kernel
theorem dX12_fault_13 : decode cX12_fault 13 = .ok (.if_icmp .ne 10, 3) := by decide +kernel
theorem dX12_fault_23 : decode cX12_fault 23 = .ok (.iconst (-1), 1) := by decide +kernel
theorem dX12_fault_24 : decode cX12_fault 24 = .ok (.ireturn, 1) := by decide +kernel
theorem dX12_fault_16 : decode cX12_fault 16 = .ok (.aload_n 0, 1) := by decide +kernel
theorem dX12_fault_17 : decode cX12_fault 17 = .ok (.getfield 41, 3) := by decide +kernel
theorem dX12_fault_20 : decode cX12_fault 20 = .ok (.goto 4, 3) := by decide +kernel
theorem dX12_fault_4 : decode cX12_fault 4 = .ok (.aload_n 0, 1) := by decide +kernel
theorem dX12_fault_5 : decode cX12_fault 5 = .ok (.getfield 37, 3) := by decide +kernel
theorem dX12_fault_8 : decode cX12_fault 8 = .ok (.goto 16, 3) := by decide +kernel
def vdq_fault : List Cond := [.code yX12_fault cX12_fault 2 (some .int), .fieldLink RX12 41 "SaltStreetModel" "faultPlace" "I", .fieldLink RX12 37 "SaltStreetModel" "faultKind" "I"]
def vq_fault : List Cond := vdq_fault ++ (wsX120 ++ ([] : List Cond))
theorem iq_fault_X12 : ∀ w ∈ wsX120, w ∈ vq_fault := fun _ h => List.mem_append_right _ (List.mem_append_left _ h)
set_option maxHeartbeats 4000000 in
set_option maxRecDepth 100000 in
theorem q_fault (l : Launch) (D : va_G) (kc : Nat → ClassId) (sz : Nat) (ma : Nat → Nat) (a0 : Int32) : Met l yX12_fault vq_fault ({ frames := 0, cells := 0, slots := 0, locals := 0 }) (va_Pc [.ref (ma 0), .int a0] (wPre D kc [(ma 0, .inr (11, [.ref (ma 1), .ref (ma 2), .int 0, .long 0, .long 1, .ref (ma 3), .ref (ma 4), .ref (ma 5), .ref (ma 6), .ref (ma 7), .int 0, .int 0, .int 0, .int 0, .int 0, .int 0, .int (-1), .int (-1), .int 0, .int 0, .int 0, .ref (ma 8), .int 0, .int 0, .int (-1), .int 0, .int 0, .int 0, .ref (ma 9), .int 0, .int 0, .ref (ma 10), .ref (ma 11), .ref (ma 12), .int 0, .int 0]))] sz)) (va_Qi (fun (r : Int32) (_ : Unit) => r = (-1)) wAny (va_A [(ma 0, .inr (11, [.ref (ma 1), .ref (ma 2), .int 0, .long 0, .long 1, .ref (ma 3), .ref (ma 4), .ref (ma 5), .ref (ma 6), .ref (ma 7), .int 0, .int 0, .int 0, .int 0, .int 0, .int 0, .int (-1), .int (-1), .int 0, .int 0, .int 0, .ref (ma 8), .int 0, .int 0, .int (-1), .int 0, .int 0, .int 0, .ref (ma 9), .int 0, .int 0, .ref (ma 10), .ref (ma 11), .ref (ma 12), .int 0, .int 0]))] sz)) 0 0 (va_A [(ma 0, .inr (11, [.ref (ma 1), .ref (ma 2), .int 0, .long 0, .long 1, .ref (ma 3), .ref (ma 4), .ref (ma 5), .ref (ma 6), .ref (ma 7), .int 0, .int 0, .int 0, .int 0, .int 0, .int 0, .int (-1), .int (-1), .int 0, .int 0, .int 0, .ref (ma 8), .int 0, .int 0, .int (-1), .int 0, .int 0, .int 0, .ref (ma 9), .int 0, .int 0, .ref (ma 10), .ref (ma 11), .ref (ma 12), .int 0, .int 0]))] sz) := by
  refine Met.ofW (cc := cX12_fault) (maxL := 2) (ret := (some .int)) (by decide) rfl ?_
  intro p e s m args below meth c s₁ B hml hv
  obtain ⟨rfl, hsz, hP, hE, hD0⟩ := hv
  have hx := B.exec
  have hb := B.bytes
  have hr := B.returns
  have hts := atoms_spec (ws := vq_fault) B.pre
  have hown : s.vm.findClass RX12 = some m.cls := findClass_of_methodNamed B.named
  have hlocks := B.notSynchronized
  subst hsz
  have hD := hD0.self (sz := s.heap.size)
  generalize hAe : va_A [(ma 0, .inr (11, [.ref (ma 1), .ref (ma 2), .int 0, .long 0, .long 1, .ref (ma 3), .ref (ma 4), .ref (ma 5), .ref (ma 6), .ref (ma 7), .int 0, .int 0, .int 0, .int 0, .int 0, .int 0, .int (-1), .int (-1), .int 0, .int 0, .int 0, .ref (ma 8), .int 0, .int 0, .int (-1), .int 0, .int 0, .int 0, .ref (ma 9), .int 0, .int 0, .ref (ma 10), .ref (ma 11), .ref (ma 12), .int 0, .int 0]))] s.heap.size = A at hD ⊢
  have hA : ∀ q : Nat, s.heap.size ≤ q → A q := fun q h => by rw [← hAe]; exact Or.inr h
  have hS : va_S A s.heap s.heap [] := va_S.rf
  have hK := hE.1
  have hP : va_P D vwCl [(ma 0, .inr (11, [.ref (ma 1), .ref (ma 2), .int 0, .long 0, .long 1, .ref (ma 3), .ref (ma 4), .ref (ma 5), .ref (ma 6), .ref (ma 7), .int 0, .int 0, .int 0, .int 0, .int 0, .int 0, .int (-1), .int (-1), .int 0, .int 0, .int 0, .ref (ma 8), .int 0, .int 0, .int (-1), .int 0, .int 0, .int 0, .ref (ma 9), .int 0, .int 0, .ref (ma 10), .ref (ma 11), .ref (ma 12), .int 0, .int 0]))] s.heap := hP
  have hl := lv_entry ([.ref (ma 0), .int a0]) (n := 2) (Nat.le_of_ble_eq_true rfl)
  rw [lg_entry_eq]
  generalize (lg_sl ([.ref (ma 0), .int a0]) ++ List.replicate (2 - (lg_sl ([.ref (ma 0), .int a0])).length) Slot.unset).toArray = ls at hl ⊢
  have hl : lv_has ls 2 [(0, .ref (ma 0)), (1, .int a0)] := hl
  refine lv_iload_n hx hb dX12_fault_0 rfl (lv_at hl 1 rfl) ?_
  refine lv_if_ne (tgt := 11) hx hb dX12_fault_1 (by decide) (fun c_1 => ?_) (fun c_1 => ?_)
  · refine lv_iload_n hx hb dX12_fault_11 rfl (lv_at hl 1 rfl) ?_
    refine lv_iconst (v := 1) hx hb dX12_fault_12 (by decide) ?_
    refine lv_icmp_ne (tgt := 23) hx hb dX12_fault_13 (by decide) (fun c_13 => ?_) (fun c_13 => ?_)
    · refine lv_iconst (v := (-1)) hx hb dX12_fault_23 (by decide) ?_
      exact W.iret (v := (-1)) hx hb hr (fun t9 ht hW => ⟨⟨(-1), (), rfl, rfl, trivial⟩, hS.F ht⟩) hS.2.2 dX12_fault_24
    · refine lv_aload_n hx hb dX12_fault_16 rfl (lv_at hl 0 rfl) ?_
      refine va_get (D := D) (ci := 11) (v := .int (-1)) (C := RX12) (T := TX12) (N := 36) hx hb hts iq_fault_X12 hown hK hP 0 rfl rfl 17 (by decide) (hts (.fieldLink RX12 41 "SaltStreetModel" "faultPlace" "I") (List.mem_of_getElem? (i := 1) rfl)) (fun _ h9 => h9) rfl dX12_fault_17 ?_
      refine lv_goto (tgt := 24) hx hb dX12_fault_20 (by decide) ?_
      exact W.iret (v := (-1)) hx hb hr (fun t9 ht hW => ⟨⟨(-1), (), rfl, rfl, trivial⟩, hS.F ht⟩) hS.2.2 dX12_fault_24
  · refine lv_aload_n hx hb dX12_fault_4 rfl (lv_at hl 0 rfl) ?_
    refine va_get (D := D) (ci := 11) (v := .int (-1)) (C := RX12) (T := TX12) (N := 36) hx hb hts iq_fault_X12 hown hK hP 0 rfl rfl 16 (by decide) (hts (.fieldLink RX12 37 "SaltStreetModel" "faultKind" "I") (List.mem_of_getElem? (i := 2) rfl)) (fun _ h9 => h9) rfl dX12_fault_5 ?_
    refine lv_goto (tgt := 24) hx hb dX12_fault_8 (by decide) ?_
    exact W.iret (v := (-1)) hx hb hr (fun t9 ht hW => ⟨⟨(-1), (), rfl, rfl, trivial⟩, hS.F ht⟩) hS.2.2 dX12_fault_24
theorem dX12_back_0 : decode cX12_back 0 = .ok (.aload_n 0, 1) := by decide +kernel
theorem dX12_back_1 : decode cX12_back 1 = .ok (.getfield 421, 3) := by decide +kernel
theorem dX12_back_4 : decode cX12_back 4 = .ok (.ifCond .ne 10, 3) := by decide +kernel
theorem dX12_back_7 : decode cX12_back 7 = .ok (.aload_n 0, 1) := by decide +kernel
theorem dX12_back_8 : decode cX12_back 8 = .ok (.bipush 6, 2) := by decide +kernel
theorem dX12_back_10 : decode cX12_back 10 = .ok (.invokevirtual 72, 3) := by decide +kernel
theorem dX12_back_13 : decode cX12_back 13 = .ok (.ireturn, 1) := by decide +kernel
def vdq_back : List Cond := [.code yX12_back cX12_back 1 (some .int), .fieldLink RX12 421 "SaltStreetModel" "marks" "I", .methodLink RX12 72 yX12_refuse, .code yX12_refuse cX12_refuse 2 (some .int), .fieldLink RX12 66 "SaltStreetModel" "status" "I", .instanceMethod yX12_refuse, .selects RX12 yX12_refuse yX12_refuse, .initialized RX12]
def vq_back : List Cond := vdq_back ++ (wsX120 ++ ([] : List Cond))
theorem iq_back_X12 : ∀ w ∈ wsX120, w ∈ vq_back := fun _ h => List.mem_append_right _ (List.mem_append_left _ h)
set_option maxRecDepth 20000 in
theorem gq_back_72_m_refuse : GoodIn vq_back (wsV RX12 72 RX12 yX12_refuse vm_refuse) := (goodIn_app (goodIn_r _ [2, 5, 6, 7] rfl (by decide +kernel)) (goodIn_app (goodIn_r vdm_refuse [3, 4] rfl (by decide +kernel)) (goodIn_app (goodIn_sub iq_back_X12 gdX12) goodIn_nil)))
set_option maxHeartbeats 4000000 in
set_option maxRecDepth 100000 in
theorem q_back (l : Launch) (D : va_G) (kc : Nat → ClassId) (sz : Nat) (ma : Nat → Nat) : Met l yX12_back vq_back ({ frames := 1, cells := 0, slots := 0, locals := 21 }) (va_Pc [.ref (ma 0)] (wPre D kc [(ma 0, .inr (11, [.ref (ma 1), .ref (ma 2), .int 0, .long 0, .long 1, .ref (ma 3), .ref (ma 4), .ref (ma 5), .ref (ma 6), .ref (ma 7), .int 0, .int 0, .int 0, .int 0, .int 0, .int 0, .int (-1), .int (-1), .int 0, .int 0, .int 0, .ref (ma 8), .int 0, .int 0, .int (-1), .int 0, .int 0, .int 0, .ref (ma 9), .int 0, .int 0, .ref (ma 10), .ref (ma 11), .ref (ma 12), .int 0, .int 0]))] sz)) (va_Qi (fun (r : Int32) (_ : Unit) => r = (-1)) wAny (va_A [(ma 0, .inr (11, [.ref (ma 1), .ref (ma 2), .int 0, .long 0, .long 1, .ref (ma 3), .ref (ma 4), .ref (ma 5), .ref (ma 6), .ref (ma 7), .int 0, .int 0, .int 0, .int 0, .int 0, .int 0, .int (-1), .int (-1), .int 0, .int 0, .int 0, .ref (ma 8), .int 0, .int 0, .int (-1), .int 0, .int 0, .int 0, .ref (ma 9), .int 0, .int 0, .ref (ma 10), .ref (ma 11), .ref (ma 12), .int 0, .int 0]))] sz)) 0 0 (va_A [(ma 0, .inr (11, [.ref (ma 1), .ref (ma 2), .int 0, .long 0, .long 1, .ref (ma 3), .ref (ma 4), .ref (ma 5), .ref (ma 6), .ref (ma 7), .int 0, .int 0, .int 0, .int 0, .int 0, .int 0, .int (-1), .int (-1), .int 0, .int 0, .int 0, .ref (ma 8), .int 0, .int 0, .int (-1), .int 0, .int 0, .int 0, .ref (ma 9), .int 0, .int 0, .ref (ma 10), .ref (ma 11), .ref (ma 12), .int 0, .int 0]))] sz) := by
  refine Met.ofW (cc := cX12_back) (maxL := 1) (ret := (some .int)) (by decide) rfl ?_
  intro p e s m args below meth c s₁ B hml hv
  obtain ⟨rfl, hsz, hP, hE, hD0⟩ := hv
  have hx := B.exec
  have hb := B.bytes
  have hr := B.returns
  have hts := atoms_spec (ws := vq_back) B.pre
  have hown : s.vm.findClass RX12 = some m.cls := findClass_of_methodNamed B.named
  have hlocks := B.notSynchronized
  subst hsz
  have hD := hD0.self (sz := s.heap.size)
  generalize hAe : va_A [(ma 0, .inr (11, [.ref (ma 1), .ref (ma 2), .int 0, .long 0, .long 1, .ref (ma 3), .ref (ma 4), .ref (ma 5), .ref (ma 6), .ref (ma 7), .int 0, .int 0, .int 0, .int 0, .int 0, .int 0, .int (-1), .int (-1), .int 0, .int 0, .int 0, .ref (ma 8), .int 0, .int 0, .int (-1), .int 0, .int 0, .int 0, .ref (ma 9), .int 0, .int 0, .ref (ma 10), .ref (ma 11), .ref (ma 12), .int 0, .int 0]))] s.heap.size = A at hD ⊢
  have hA : ∀ q : Nat, s.heap.size ≤ q → A q := fun q h => by rw [← hAe]; exact Or.inr h
  have hS : va_S A s.heap s.heap [] := va_S.rf
  have hK := hE.1
  have hP : va_P D vwCl [(ma 0, .inr (11, [.ref (ma 1), .ref (ma 2), .int 0, .long 0, .long 1, .ref (ma 3), .ref (ma 4), .ref (ma 5), .ref (ma 6), .ref (ma 7), .int 0, .int 0, .int 0, .int 0, .int 0, .int 0, .int (-1), .int (-1), .int 0, .int 0, .int 0, .ref (ma 8), .int 0, .int 0, .int (-1), .int 0, .int 0, .int 0, .ref (ma 9), .int 0, .int 0, .ref (ma 10), .ref (ma 11), .ref (ma 12), .int 0, .int 0]))] s.heap := hP
  have hl := lv_entry ([.ref (ma 0)]) (n := 1) (Nat.le_of_ble_eq_true rfl)
  rw [lg_entry_eq]
  generalize (lg_sl ([.ref (ma 0)]) ++ List.replicate (1 - (lg_sl ([.ref (ma 0)])).length) Slot.unset).toArray = ls at hl ⊢
  have hl : lv_has ls 1 [(0, .ref (ma 0))] := hl
  refine lv_aload_n hx hb dX12_back_0 rfl (lv_at hl 0 rfl) ?_
  refine va_get (D := D) (ci := 11) (v := .int 0) (C := RX12) (T := TX12) (N := 36) hx hb hts iq_back_X12 hown hK hP 0 rfl rfl 35 (by decide) (hts (.fieldLink RX12 421 "SaltStreetModel" "marks" "I") (List.mem_of_getElem? (i := 1) rfl)) (fun _ h9 => h9) rfl dX12_back_1 ?_
  refine lv_if_ne (tgt := 14) hx hb dX12_back_4 (by decide) (fun h => absurd (by decide) h) (fun _ => ?_)
  refine lv_aload_n hx hb dX12_back_7 rfl (lv_at hl 0 rfl) ?_
  refine lv_bipush (v := 6) hx hb dX12_back_8 (by decide) ?_
  have hPc := hP.sub (ws' := [(ma 0, .inr (11, [.ref (ma 1), .ref (ma 2), .int 0, .long 0, .long 1, .ref (ma 3), .ref (ma 4), .ref (ma 5), .ref (ma 6), .ref (ma 7), .int 0, .int 0, .int 0, .int 0, .int 0, .int 0, .int (-1), .int (-1), .int 0, .int 0, .int 0, .ref (ma 8), .int 0, .int 0, .int (-1), .int 0, .int 0, .int 0, .ref (ma 9), .int 0, .int 0, .ref (ma 10), .ref (ma 11), .ref (ma 12), .int 0, .int 0]))]) [0] rfl
  have hDc := hD.sub (ws' := [(ma 0, .inr (11, [.ref (ma 1), .ref (ma 2), .int 0, .long 0, .long 1, .ref (ma 3), .ref (ma 4), .ref (ma 5), .ref (ma 6), .ref (ma 7), .int 0, .int 0, .int 0, .int 0, .int 0, .int 0, .int (-1), .int (-1), .int 0, .int 0, .int 0, .ref (ma 8), .int 0, .int 0, .int (-1), .int 0, .int 0, .int 0, .ref (ma 9), .int 0, .int 0, .ref (ma 10), .ref (ma 11), .ref (ma 12), .int 0, .int 0]))]) [0] (by decide) rfl
  have hFc := va_free (wc := [(ma 0, .inr (11, [.ref (ma 1), .ref (ma 2), .int 0, .long 0, .long 1, .ref (ma 3), .ref (ma 4), .ref (ma 5), .ref (ma 6), .ref (ma 7), .int 0, .int 0, .int 0, .int 0, .int 0, .int 0, .int (-1), .int (-1), .int 0, .int 0, .int 0, .ref (ma 8), .int 0, .int 0, .int (-1), .int 0, .int 0, .int 0, .ref (ma 9), .int 0, .int 0, .ref (ma 10), .ref (ma 11), .ref (ma 12), .int 0, .int 0]))]) hD hS hA [0] rfl
  refine va_calli (va_runV (As := [.int 6]) (rest := []) ⟨hx, hb, hml, hown, hts⟩ (m_refuse l D kc s.heap.size ma 0 0 1 0 0 0 0 0 0 (-1) (-1) 0 0 0 0 0 (-1) 0 0 0 0 0 0 0 6) (cwV 1 hts gq_back_72_m_refuse rfl rfl rfl (by decide +kernel) ⟨Nat.le_of_ble_eq_true rfl, Nat.le_of_ble_eq_true rfl⟩) (preV_ok hPc hDc hE (ci := 11) (q0 := 0) rfl rfl) rfl rfl hl.1 rfl (lv_room (Nat.le_of_ble_eq_true rfl)) dX12_back_10 ⟨Nat.le_of_ble_eq_true rfl, Nat.le_of_ble_eq_true rfl⟩) hS (fun q _ h => hFc q h) hFc (fun r_10 u9 t9 H locs ht hvm hw hB hz1 hk1 hS => ?_)
  obtain ⟨hP1, hD1⟩ := hB
  rw [ht] at hP1
  obtain ⟨hP, hD⟩ := va_join (wr := []) (w1 := [(ma 0, .inr (11, [.ref (ma 1), .ref (ma 2), .int 6, .long 0, .long 1, .ref (ma 3), .ref (ma 4), .ref (ma 5), .ref (ma 6), .ref (ma 7), .int 0, .int 0, .int 0, .int 0, .int 0, .int 0, .int (-1), .int (-1), .int 0, .int 0, .int 0, .ref (ma 8), .int 0, .int 0, .int (-1), .int 0, .int 0, .int 0, .ref (ma 9), .int 0, .int 0, .ref (ma 10), .ref (ma 11), .ref (ma 12), .int 0, .int 0]))]) hP hD [0] [] rfl rfl (by decide) (by decide) hk1 hFc hP1 hD1
  have hP : va_P D vwCl [(ma 0, .inr (11, [.ref (ma 1), .ref (ma 2), .int 6, .long 0, .long 1, .ref (ma 3), .ref (ma 4), .ref (ma 5), .ref (ma 6), .ref (ma 7), .int 0, .int 0, .int 0, .int 0, .int 0, .int 0, .int (-1), .int (-1), .int 0, .int 0, .int 0, .ref (ma 8), .int 0, .int 0, .int (-1), .int 0, .int 0, .int 0, .ref (ma 9), .int 0, .int 0, .ref (ma 10), .ref (ma 11), .ref (ma 12), .int 0, .int 0]))] H := hP
  have hD : va_D A [(ma 0, .inr (11, [.ref (ma 1), .ref (ma 2), .int 6, .long 0, .long 1, .ref (ma 3), .ref (ma 4), .ref (ma 5), .ref (ma 6), .ref (ma 7), .int 0, .int 0, .int 0, .int 0, .int 0, .int 0, .int (-1), .int (-1), .int 0, .int 0, .int 0, .ref (ma 8), .int 0, .int 0, .int (-1), .int 0, .int 0, .int 0, .ref (ma 9), .int 0, .int 0, .ref (ma 10), .ref (ma 11), .ref (ma 12), .int 0, .int 0]))] := hD
  subst hw
  exact W.iret (v := (-1)) hx hb hr (fun t9 ht hW => ⟨⟨(-1), (), rfl, rfl, trivial⟩, hS.F ht⟩) hS.2.2 dX12_back_13
theorem dX12_purse_0 : decode cX12_purse 0 = .ok (.aload_n 0, 1) := by decide +kernel
theorem dX12_purse_1 : decode cX12_purse 1 = .ok (.aload_n 0, 1) := by decide +kernel
theorem dX12_purse_2 : decode cX12_purse 2 = .ok (.getfield 7, 3) := by decide +kernel
theorem dX12_purse_5 : decode cX12_purse 5 = .ok (.bipush 12, 2) := by decide +kernel
theorem dX12_purse_7 : decode cX12_purse 7 = .ok (.iaload, 1) := by decide +kernel
theorem dX12_purse_8 : decode cX12_purse 8 = .ok (.invokevirtual 76, 3) := by decide +kernel
theorem dX12_purse_11 : decode cX12_purse 11 = .ok (.ireturn, 1) := by decide +kernel
def vdq_purse : List Cond := [.code yX12_purse cX12_purse 1 (some .int), .fieldLink RX12 7 "SaltStreetModel" "at" "[I", .methodLink RX12 76 yX12_gives, .code yX12_gives cX12_gives 2 (some .int), .fieldLink RX12 66 "SaltStreetModel" "status" "I", .instanceMethod yX12_gives, .selects RX12 yX12_gives yX12_gives, .initialized RX12]
def vq_purse : List Cond := vdq_purse ++ (wsX120 ++ ([] : List Cond))
theorem iq_purse_X12 : ∀ w ∈ wsX120, w ∈ vq_purse := fun _ h => List.mem_append_right _ (List.mem_append_left _ h)
set_option maxRecDepth 20000 in
theorem gq_purse_76_m_gives : GoodIn vq_purse (wsV RX12 76 RX12 yX12_gives vm_gives) := (goodIn_app (goodIn_r _ [2, 5, 6, 7] rfl (by decide +kernel)) (goodIn_app (goodIn_r vdm_gives [3, 4] rfl (by decide +kernel)) (goodIn_app (goodIn_sub iq_purse_X12 gdX12) goodIn_nil)))
set_option maxHeartbeats 4000000 in
set_option maxRecDepth 100000 in
theorem q_purse (l : Launch) (D : va_G) (kc : Nat → ClassId) (sz : Nat) (ma : Nat → Nat) : Met l yX12_purse vq_purse ({ frames := 1, cells := 0, slots := 0, locals := 21 }) (va_Pc [.ref (ma 0)] (wPre D kc [(ma 0, .inr (11, [.ref (ma 1), .ref (ma 2), .int 0, .long 0, .long 1, .ref (ma 3), .ref (ma 4), .ref (ma 5), .ref (ma 6), .ref (ma 7), .int 0, .int 0, .int 0, .int 0, .int 0, .int 0, .int (-1), .int (-1), .int 0, .int 0, .int 0, .ref (ma 8), .int 0, .int 0, .int (-1), .int 0, .int 0, .int 0, .ref (ma 9), .int 0, .int 0, .ref (ma 10), .ref (ma 11), .ref (ma 12), .int 0, .int 0])), (ma 1, .inl (kc 0, 2880, .inl at0))] sz)) (va_Qi (fun (r : Int32) (_ : Unit) => r = 0) wAny (va_A [(ma 0, .inr (11, [.ref (ma 1), .ref (ma 2), .int 0, .long 0, .long 1, .ref (ma 3), .ref (ma 4), .ref (ma 5), .ref (ma 6), .ref (ma 7), .int 0, .int 0, .int 0, .int 0, .int 0, .int 0, .int (-1), .int (-1), .int 0, .int 0, .int 0, .ref (ma 8), .int 0, .int 0, .int (-1), .int 0, .int 0, .int 0, .ref (ma 9), .int 0, .int 0, .ref (ma 10), .ref (ma 11), .ref (ma 12), .int 0, .int 0])), (ma 1, .inl (kc 0, 2880, .inl at0))] sz)) 0 0 (va_A [(ma 0, .inr (11, [.ref (ma 1), .ref (ma 2), .int 0, .long 0, .long 1, .ref (ma 3), .ref (ma 4), .ref (ma 5), .ref (ma 6), .ref (ma 7), .int 0, .int 0, .int 0, .int 0, .int 0, .int 0, .int (-1), .int (-1), .int 0, .int 0, .int 0, .ref (ma 8), .int 0, .int 0, .int (-1), .int 0, .int 0, .int 0, .ref (ma 9), .int 0, .int 0, .ref (ma 10), .ref (ma 11), .ref (ma 12), .int 0, .int 0])), (ma 1, .inl (kc 0, 2880, .inl at0))] sz) := by
  refine Met.ofW (cc := cX12_purse) (maxL := 1) (ret := (some .int)) (by decide) rfl ?_
  intro p e s m args below meth c s₁ B hml hv
  obtain ⟨rfl, hsz, hP, hE, hD0⟩ := hv
  have hx := B.exec
  have hb := B.bytes
  have hr := B.returns
  have hts := atoms_spec (ws := vq_purse) B.pre
  have hown : s.vm.findClass RX12 = some m.cls := findClass_of_methodNamed B.named
  have hlocks := B.notSynchronized
  subst hsz
  have hD := hD0.self (sz := s.heap.size)
  generalize hAe : va_A [(ma 0, .inr (11, [.ref (ma 1), .ref (ma 2), .int 0, .long 0, .long 1, .ref (ma 3), .ref (ma 4), .ref (ma 5), .ref (ma 6), .ref (ma 7), .int 0, .int 0, .int 0, .int 0, .int 0, .int 0, .int (-1), .int (-1), .int 0, .int 0, .int 0, .ref (ma 8), .int 0, .int 0, .int (-1), .int 0, .int 0, .int 0, .ref (ma 9), .int 0, .int 0, .ref (ma 10), .ref (ma 11), .ref (ma 12), .int 0, .int 0])), (ma 1, .inl (kc 0, 2880, .inl at0))] s.heap.size = A at hD ⊢
  have hA : ∀ q : Nat, s.heap.size ≤ q → A q := fun q h => by rw [← hAe]; exact Or.inr h
  have hS : va_S A s.heap s.heap [] := va_S.rf
  have hK := hE.1
  have hP : va_P D vwCl [(ma 0, .inr (11, [.ref (ma 1), .ref (ma 2), .int 0, .long 0, .long 1, .ref (ma 3), .ref (ma 4), .ref (ma 5), .ref (ma 6), .ref (ma 7), .int 0, .int 0, .int 0, .int 0, .int 0, .int 0, .int (-1), .int (-1), .int 0, .int 0, .int 0, .ref (ma 8), .int 0, .int 0, .int (-1), .int 0, .int 0, .int 0, .ref (ma 9), .int 0, .int 0, .ref (ma 10), .ref (ma 11), .ref (ma 12), .int 0, .int 0])), (ma 1, .inl (kc 0, 2880, .inl at0))] s.heap := hP
  have hl := lv_entry ([.ref (ma 0)]) (n := 1) (Nat.le_of_ble_eq_true rfl)
  rw [lg_entry_eq]
  generalize (lg_sl ([.ref (ma 0)]) ++ List.replicate (1 - (lg_sl ([.ref (ma 0)])).length) Slot.unset).toArray = ls at hl ⊢
  have hl : lv_has ls 1 [(0, .ref (ma 0))] := hl
  refine lv_aload_n hx hb dX12_purse_0 rfl (lv_at hl 0 rfl) ?_
  refine lv_aload_n hx hb dX12_purse_1 rfl (lv_at hl 0 rfl) ?_
  refine va_get (D := D) (ci := 11) (v := .ref (ma 1)) (C := RX12) (T := TX12) (N := 36) hx hb hts iq_purse_X12 hown hK hP 0 rfl rfl 0 (by decide) (hts (.fieldLink RX12 7 "SaltStreetModel" "at" "[I") (List.mem_of_getElem? (i := 1) rfl)) (fun _ h9 => h9) rfl dX12_purse_2 ?_
  refine lv_bipush (v := 12) hx hb dX12_purse_5 (by decide) ?_
  refine va_iald hx hb hK hP 1 0 (f := at0) rfl rfl (by unfold vp_in; decide) dX12_purse_7 ?_
  refine lv_ci (y := 0) (by decide) ?_
  have hPc := hP.sub (ws' := [(ma 0, .inr (11, [.ref (ma 1), .ref (ma 2), .int 0, .long 0, .long 1, .ref (ma 3), .ref (ma 4), .ref (ma 5), .ref (ma 6), .ref (ma 7), .int 0, .int 0, .int 0, .int 0, .int 0, .int 0, .int (-1), .int (-1), .int 0, .int 0, .int 0, .ref (ma 8), .int 0, .int 0, .int (-1), .int 0, .int 0, .int 0, .ref (ma 9), .int 0, .int 0, .ref (ma 10), .ref (ma 11), .ref (ma 12), .int 0, .int 0]))]) [0] rfl
  have hDc := hD.sub (ws' := [(ma 0, .inr (11, [.ref (ma 1), .ref (ma 2), .int 0, .long 0, .long 1, .ref (ma 3), .ref (ma 4), .ref (ma 5), .ref (ma 6), .ref (ma 7), .int 0, .int 0, .int 0, .int 0, .int 0, .int 0, .int (-1), .int (-1), .int 0, .int 0, .int 0, .ref (ma 8), .int 0, .int 0, .int (-1), .int 0, .int 0, .int 0, .ref (ma 9), .int 0, .int 0, .ref (ma 10), .ref (ma 11), .ref (ma 12), .int 0, .int 0]))]) [0] (by decide) rfl
  have hFc := va_free (wc := [(ma 0, .inr (11, [.ref (ma 1), .ref (ma 2), .int 0, .long 0, .long 1, .ref (ma 3), .ref (ma 4), .ref (ma 5), .ref (ma 6), .ref (ma 7), .int 0, .int 0, .int 0, .int 0, .int 0, .int 0, .int (-1), .int (-1), .int 0, .int 0, .int 0, .ref (ma 8), .int 0, .int 0, .int (-1), .int 0, .int 0, .int 0, .ref (ma 9), .int 0, .int 0, .ref (ma 10), .ref (ma 11), .ref (ma 12), .int 0, .int 0]))]) hD hS hA [0] rfl
  refine va_calli (va_runV (As := [.int 0]) (rest := []) ⟨hx, hb, hml, hown, hts⟩ (m_gives l D kc s.heap.size ma 0 0 1 0 0 0 0 0 0 (-1) (-1) 0 0 0 0 0 (-1) 0 0 0 0 0 0 0 0) (cwV 1 hts gq_purse_76_m_gives rfl rfl rfl (by decide +kernel) ⟨Nat.le_of_ble_eq_true rfl, Nat.le_of_ble_eq_true rfl⟩) (preV_ok hPc hDc hE (ci := 11) (q0 := 0) rfl rfl) rfl rfl hl.1 rfl (lv_room (Nat.le_of_ble_eq_true rfl)) dX12_purse_8 ⟨Nat.le_of_ble_eq_true rfl, Nat.le_of_ble_eq_true rfl⟩) hS (fun q _ h => hFc q h) hFc (fun r_8 u9 t9 H locs ht hvm hw hB hz1 hk1 hS => ?_)
  obtain ⟨hP1, hD1⟩ := hB
  rw [ht] at hP1
  obtain ⟨hP, hD⟩ := va_join (wr := [(ma 1, .inl (kc 0, 2880, .inl at0))]) (w1 := [(ma 0, .inr (11, [.ref (ma 1), .ref (ma 2), .int 0, .long 0, .long 1, .ref (ma 3), .ref (ma 4), .ref (ma 5), .ref (ma 6), .ref (ma 7), .int 0, .int 0, .int 0, .int 0, .int 0, .int 0, .int (-1), .int (-1), .int 0, .int 0, .int 0, .ref (ma 8), .int 0, .int 0, .int (-1), .int 0, .int 0, .int 0, .ref (ma 9), .int 0, .int 0, .ref (ma 10), .ref (ma 11), .ref (ma 12), .int 0, .int 0]))]) hP hD [0] [1] rfl rfl (by decide) (by decide) hk1 hFc hP1 hD1
  have hP : va_P D vwCl [(ma 1, .inl (kc 0, 2880, .inl at0)), (ma 0, .inr (11, [.ref (ma 1), .ref (ma 2), .int 0, .long 0, .long 1, .ref (ma 3), .ref (ma 4), .ref (ma 5), .ref (ma 6), .ref (ma 7), .int 0, .int 0, .int 0, .int 0, .int 0, .int 0, .int (-1), .int (-1), .int 0, .int 0, .int 0, .ref (ma 8), .int 0, .int 0, .int (-1), .int 0, .int 0, .int 0, .ref (ma 9), .int 0, .int 0, .ref (ma 10), .ref (ma 11), .ref (ma 12), .int 0, .int 0]))] H := hP
  have hD : va_D A [(ma 1, .inl (kc 0, 2880, .inl at0)), (ma 0, .inr (11, [.ref (ma 1), .ref (ma 2), .int 0, .long 0, .long 1, .ref (ma 3), .ref (ma 4), .ref (ma 5), .ref (ma 6), .ref (ma 7), .int 0, .int 0, .int 0, .int 0, .int 0, .int 0, .int (-1), .int (-1), .int 0, .int 0, .int 0, .ref (ma 8), .int 0, .int 0, .int (-1), .int 0, .int 0, .int 0, .ref (ma 9), .int 0, .int 0, .ref (ma 10), .ref (ma 11), .ref (ma 12), .int 0, .int 0]))] := hD
  subst hw
  exact W.iret (v := 0) hx hb hr (fun t9 ht hW => ⟨⟨0, (), rfl, rfl, trivial⟩, hS.F ht⟩) hS.2.2 dX12_purse_11
theorem dX12_step_0 : decode cX12_step 0 = .ok (.iload_n 2, 1) := by decide +kernel
theorem dX12_step_1 : decode cX12_step 1 = .ok (.ifCond .lt 8, 3) := by decide +kernel
theorem dX12_step_9 : decode cX12_step 9 = .ok (.iconst 1, 1) := by decide +kernel
theorem dX12_step_10 : decode cX12_step 10 = .ok (.goto 8, 3) := by decide +kernel
theorem dX12_step_18 : decode cX12_step 18 = .ok (.istore_n 3, 1) := by decide +kernel
theorem dX12_step_19 : decode cX12_step 19 = .ok (.iload_n 3, 1) := by decide +kernel
theorem dX12_step_20 : decode cX12_step 20 = .ok (.ifCond .le 9, 3) := by decide +kernel
theorem dX12_step_23 : decode cX12_step 23 = .ok (.aload_n 0, 1) := by decide +kernel
theorem dX12_step_24 : decode cX12_step 24 = .ok (.iload_n 3, 1) := by decide +kernel
theorem dX12_step_25 : decode cX12_step 25 = .ok (.invokevirtual 72, 3) := by decide +kernel
theorem dX12_step_28 : decode cX12_step 28 = .ok (.ireturn, 1) := by decide +kernel
theorem dX12_step_4 : decode cX12_step 4 = .ok (.iload_n 2, 1) := by decide +kernel
theorem dX12_step_5 : decode cX12_step 5 = .ok (.iconst 3, 1) := by decide +kernel
theorem dX12_step_6 : decode cX12_step 6 = .ok (.if_icmp .le 7, 3) := by decide +kernel
theorem dX12_step_13 : decode cX12_step 13 = .ok (.aload_n 0, 1) := by decide +kernel
theorem dX12_step_14 : decode cX12_step 14 = .ok (.iload_n 1, 1) := by decide +kernel
theorem dX12_step_15 : decode cX12_step 15 = .ok (.invokevirtual 263, 3) := by decide +kernel
def vdq_step : List Cond := [.code yX12_step cX12_step 6 (some .int), .methodLink RX12 72 yX12_refuse, .code yX12_refuse cX12_refuse 2 (some .int), .fieldLink RX12 66 "SaltStreetModel" "status" "I", .instanceMethod yX12_refuse, .selects RX12 yX12_refuse yX12_refuse, .initialized RX12, .methodLink RX12 263 yX12_wrongStep, .code yX12_wrongStep cX12_wrongStep 2 (some .int), .methodLink RX12 251 yX12_isHouse, .code yX12_isHouse cX12_isHouse 2 (some .boolean), .fieldLink RX12 7 "SaltStreetModel" "at" "[I", .instanceMethod yX12_isHouse, .selects RX12 yX12_isHouse yX12_isHouse, .instanceMethod yX12_wrongStep, .selects RX12 yX12_wrongStep yX12_wrongStep]
def vq_step : List Cond := vdq_step ++ (wsX120 ++ ([] : List Cond))
theorem iq_step_X12 : ∀ w ∈ wsX120, w ∈ vq_step := fun _ h => List.mem_append_right _ (List.mem_append_left _ h)
set_option maxRecDepth 20000 in
theorem gq_step_72_m_refuse : GoodIn vq_step (wsV RX12 72 RX12 yX12_refuse vm_refuse) := (goodIn_app (goodIn_r _ [1, 4, 5, 6] rfl (by decide +kernel)) (goodIn_app (goodIn_r vdm_refuse [2, 3] rfl (by decide +kernel)) (goodIn_app (goodIn_sub iq_step_X12 gdX12) goodIn_nil)))
set_option maxRecDepth 20000 in
theorem gq_step_263_m_wrongStep : GoodIn vq_step (wsV RX12 263 RX12 yX12_wrongStep vm_wrongStep) := (goodIn_app (goodIn_r _ [7, 14, 15, 6] rfl (by decide +kernel)) (goodIn_app (goodIn_r vdm_wrongStep [8, 9, 10, 11, 12, 13, 6] rfl (by decide +kernel)) (goodIn_app (goodIn_sub iq_step_X12 gdX12) goodIn_nil)))
set_option maxHeartbeats 4000000 in
set_option maxRecDepth 100000 in
theorem q_step (l : Launch) (D : va_G) (kc : Nat → ClassId) (sz : Nat) (ma : Nat → Nat) (a0 : Int32) (a1 : Int32) : Met l yX12_step vq_step ({ frames := 2, cells := 0, slots := 0, locals := 42 }) (va_Pc [.ref (ma 0), .int a0, .int a1] (wPre D kc [(ma 0, .inr (11, [.ref (ma 1), .ref (ma 2), .int 0, .long 0, .long 1, .ref (ma 3), .ref (ma 4), .ref (ma 5), .ref (ma 6), .ref (ma 7), .int 0, .int 0, .int 0, .int 0, .int 0, .int 0, .int (-1), .int (-1), .int 0, .int 0, .int 0, .ref (ma 8), .int 0, .int 0, .int (-1), .int 0, .int 0, .int 0, .ref (ma 9), .int 0, .int 0, .ref (ma 10), .ref (ma 11), .ref (ma 12), .int 0, .int 0])), (ma 1, .inl (kc 0, 2880, .inl at0))] sz)) (va_Qi (fun (r : Int32) (_ : Unit) => r = (-1)) wAny (va_A [(ma 0, .inr (11, [.ref (ma 1), .ref (ma 2), .int 0, .long 0, .long 1, .ref (ma 3), .ref (ma 4), .ref (ma 5), .ref (ma 6), .ref (ma 7), .int 0, .int 0, .int 0, .int 0, .int 0, .int 0, .int (-1), .int (-1), .int 0, .int 0, .int 0, .ref (ma 8), .int 0, .int 0, .int (-1), .int 0, .int 0, .int 0, .ref (ma 9), .int 0, .int 0, .ref (ma 10), .ref (ma 11), .ref (ma 12), .int 0, .int 0])), (ma 1, .inl (kc 0, 2880, .inl at0))] sz)) 0 0 (va_A [(ma 0, .inr (11, [.ref (ma 1), .ref (ma 2), .int 0, .long 0, .long 1, .ref (ma 3), .ref (ma 4), .ref (ma 5), .ref (ma 6), .ref (ma 7), .int 0, .int 0, .int 0, .int 0, .int 0, .int 0, .int (-1), .int (-1), .int 0, .int 0, .int 0, .ref (ma 8), .int 0, .int 0, .int (-1), .int 0, .int 0, .int 0, .ref (ma 9), .int 0, .int 0, .ref (ma 10), .ref (ma 11), .ref (ma 12), .int 0, .int 0])), (ma 1, .inl (kc 0, 2880, .inl at0))] sz) := by
  refine Met.ofW (cc := cX12_step) (maxL := 6) (ret := (some .int)) (by decide) rfl ?_
  intro p e s m args below meth c s₁ B hml hv
  obtain ⟨rfl, hsz, hP, hE, hD0⟩ := hv
  have hx := B.exec
  have hb := B.bytes
  have hr := B.returns
  have hts := atoms_spec (ws := vq_step) B.pre
  have hown : s.vm.findClass RX12 = some m.cls := findClass_of_methodNamed B.named
  have hlocks := B.notSynchronized
  subst hsz
  have hD := hD0.self (sz := s.heap.size)
  generalize hAe : va_A [(ma 0, .inr (11, [.ref (ma 1), .ref (ma 2), .int 0, .long 0, .long 1, .ref (ma 3), .ref (ma 4), .ref (ma 5), .ref (ma 6), .ref (ma 7), .int 0, .int 0, .int 0, .int 0, .int 0, .int 0, .int (-1), .int (-1), .int 0, .int 0, .int 0, .ref (ma 8), .int 0, .int 0, .int (-1), .int 0, .int 0, .int 0, .ref (ma 9), .int 0, .int 0, .ref (ma 10), .ref (ma 11), .ref (ma 12), .int 0, .int 0])), (ma 1, .inl (kc 0, 2880, .inl at0))] s.heap.size = A at hD ⊢
  have hA : ∀ q : Nat, s.heap.size ≤ q → A q := fun q h => by rw [← hAe]; exact Or.inr h
  have hS : va_S A s.heap s.heap [] := va_S.rf
  have hK := hE.1
  have hP : va_P D vwCl [(ma 0, .inr (11, [.ref (ma 1), .ref (ma 2), .int 0, .long 0, .long 1, .ref (ma 3), .ref (ma 4), .ref (ma 5), .ref (ma 6), .ref (ma 7), .int 0, .int 0, .int 0, .int 0, .int 0, .int 0, .int (-1), .int (-1), .int 0, .int 0, .int 0, .ref (ma 8), .int 0, .int 0, .int (-1), .int 0, .int 0, .int 0, .ref (ma 9), .int 0, .int 0, .ref (ma 10), .ref (ma 11), .ref (ma 12), .int 0, .int 0])), (ma 1, .inl (kc 0, 2880, .inl at0))] s.heap := hP
  have hl := lv_entry ([.ref (ma 0), .int a0, .int a1]) (n := 6) (Nat.le_of_ble_eq_true rfl)
  rw [lg_entry_eq]
  generalize (lg_sl ([.ref (ma 0), .int a0, .int a1]) ++ List.replicate (6 - (lg_sl ([.ref (ma 0), .int a0, .int a1])).length) Slot.unset).toArray = ls at hl ⊢
  have hl : lv_has ls 6 [(0, .ref (ma 0)), (1, .int a0), (2, .int a1)] := hl
  refine lv_iload_n hx hb dX12_step_0 rfl (lv_at hl 2 rfl) ?_
  refine lv_if_lt (tgt := 9) hx hb dX12_step_1 (by decide) (fun c_1 => ?_) (fun c_1 => ?_)
  · refine lv_iconst (v := 1) hx hb dX12_step_9 (by decide) ?_
    refine lv_goto (tgt := 18) hx hb dX12_step_10 (by decide) ?_
    refine lv_istore_n (lv' := [(3, .int 1), (0, .ref (ma 0)), (1, .int a0), (2, .int a1)]) hx hb dX12_step_18 rfl hl (by decide) rfl (fun ls hl => ?_)
    refine lv_iload_n hx hb dX12_step_19 rfl (lv_at hl 0 rfl) ?_
    refine lv_if_le (tgt := 29) hx hb dX12_step_20 (by decide) (fun h => absurd h (by decide)) (fun _ => ?_)
    refine lv_aload_n hx hb dX12_step_23 rfl (lv_at hl 1 rfl) ?_
    refine lv_iload_n hx hb dX12_step_24 rfl (lv_at hl 0 rfl) ?_
    have hPc := hP.sub (ws' := [(ma 0, .inr (11, [.ref (ma 1), .ref (ma 2), .int 0, .long 0, .long 1, .ref (ma 3), .ref (ma 4), .ref (ma 5), .ref (ma 6), .ref (ma 7), .int 0, .int 0, .int 0, .int 0, .int 0, .int 0, .int (-1), .int (-1), .int 0, .int 0, .int 0, .ref (ma 8), .int 0, .int 0, .int (-1), .int 0, .int 0, .int 0, .ref (ma 9), .int 0, .int 0, .ref (ma 10), .ref (ma 11), .ref (ma 12), .int 0, .int 0]))]) [0] rfl
    have hDc := hD.sub (ws' := [(ma 0, .inr (11, [.ref (ma 1), .ref (ma 2), .int 0, .long 0, .long 1, .ref (ma 3), .ref (ma 4), .ref (ma 5), .ref (ma 6), .ref (ma 7), .int 0, .int 0, .int 0, .int 0, .int 0, .int 0, .int (-1), .int (-1), .int 0, .int 0, .int 0, .ref (ma 8), .int 0, .int 0, .int (-1), .int 0, .int 0, .int 0, .ref (ma 9), .int 0, .int 0, .ref (ma 10), .ref (ma 11), .ref (ma 12), .int 0, .int 0]))]) [0] (by decide) rfl
    have hFc := va_free (wc := [(ma 0, .inr (11, [.ref (ma 1), .ref (ma 2), .int 0, .long 0, .long 1, .ref (ma 3), .ref (ma 4), .ref (ma 5), .ref (ma 6), .ref (ma 7), .int 0, .int 0, .int 0, .int 0, .int 0, .int 0, .int (-1), .int (-1), .int 0, .int 0, .int 0, .ref (ma 8), .int 0, .int 0, .int (-1), .int 0, .int 0, .int 0, .ref (ma 9), .int 0, .int 0, .ref (ma 10), .ref (ma 11), .ref (ma 12), .int 0, .int 0]))]) hD hS hA [0] rfl
    refine va_calli (va_runV (As := [.int 1]) (rest := []) ⟨hx, hb, hml, hown, hts⟩ (m_refuse l D kc s.heap.size ma 0 0 1 0 0 0 0 0 0 (-1) (-1) 0 0 0 0 0 (-1) 0 0 0 0 0 0 0 1) (cwV 1 hts gq_step_72_m_refuse rfl rfl rfl (by decide +kernel) ⟨Nat.le_of_ble_eq_true rfl, Nat.le_of_ble_eq_true rfl⟩) (preV_ok hPc hDc hE (ci := 11) (q0 := 0) rfl rfl) rfl rfl hl.1 rfl (lv_room (Nat.le_of_ble_eq_true rfl)) dX12_step_25 ⟨Nat.le_of_ble_eq_true rfl, Nat.le_of_ble_eq_true rfl⟩) hS (fun q _ h => hFc q h) hFc (fun r_25_1 u9 t9 H locs ht hvm hw hB hz1 hk1 hS => ?_)
    obtain ⟨hP1, hD1⟩ := hB
    rw [ht] at hP1
    obtain ⟨hP, hD⟩ := va_join (wr := [(ma 1, .inl (kc 0, 2880, .inl at0))]) (w1 := [(ma 0, .inr (11, [.ref (ma 1), .ref (ma 2), .int 1, .long 0, .long 1, .ref (ma 3), .ref (ma 4), .ref (ma 5), .ref (ma 6), .ref (ma 7), .int 0, .int 0, .int 0, .int 0, .int 0, .int 0, .int (-1), .int (-1), .int 0, .int 0, .int 0, .ref (ma 8), .int 0, .int 0, .int (-1), .int 0, .int 0, .int 0, .ref (ma 9), .int 0, .int 0, .ref (ma 10), .ref (ma 11), .ref (ma 12), .int 0, .int 0]))]) hP hD [0] [1] rfl rfl (by decide) (by decide) hk1 hFc hP1 hD1
    have hP : va_P D vwCl [(ma 1, .inl (kc 0, 2880, .inl at0)), (ma 0, .inr (11, [.ref (ma 1), .ref (ma 2), .int 1, .long 0, .long 1, .ref (ma 3), .ref (ma 4), .ref (ma 5), .ref (ma 6), .ref (ma 7), .int 0, .int 0, .int 0, .int 0, .int 0, .int 0, .int (-1), .int (-1), .int 0, .int 0, .int 0, .ref (ma 8), .int 0, .int 0, .int (-1), .int 0, .int 0, .int 0, .ref (ma 9), .int 0, .int 0, .ref (ma 10), .ref (ma 11), .ref (ma 12), .int 0, .int 0]))] H := hP
    have hD : va_D A [(ma 1, .inl (kc 0, 2880, .inl at0)), (ma 0, .inr (11, [.ref (ma 1), .ref (ma 2), .int 1, .long 0, .long 1, .ref (ma 3), .ref (ma 4), .ref (ma 5), .ref (ma 6), .ref (ma 7), .int 0, .int 0, .int 0, .int 0, .int 0, .int 0, .int (-1), .int (-1), .int 0, .int 0, .int 0, .ref (ma 8), .int 0, .int 0, .int (-1), .int 0, .int 0, .int 0, .ref (ma 9), .int 0, .int 0, .ref (ma 10), .ref (ma 11), .ref (ma 12), .int 0, .int 0]))] := hD
    subst hw
    exact W.iret (v := (-1)) hx hb hr (fun t9 ht hW => ⟨⟨(-1), (), rfl, rfl, trivial⟩, hS.F ht⟩) hS.2.2 dX12_step_28
  · refine lv_iload_n hx hb dX12_step_4 rfl (lv_at hl 2 rfl) ?_
    refine lv_iconst (v := 3) hx hb dX12_step_5 (by decide) ?_
    refine lv_icmp_le (tgt := 13) hx hb dX12_step_6 (by decide) (fun c_6 => ?_) (fun c_6 => ?_)
    · refine lv_aload_n hx hb dX12_step_13 rfl (lv_at hl 0 rfl) ?_
      refine lv_iload_n hx hb dX12_step_14 rfl (lv_at hl 1 rfl) ?_
      have hPc := hP.sub (ws' := [(ma 0, .inr (11, [.ref (ma 1), .ref (ma 2), .int 0, .long 0, .long 1, .ref (ma 3), .ref (ma 4), .ref (ma 5), .ref (ma 6), .ref (ma 7), .int 0, .int 0, .int 0, .int 0, .int 0, .int 0, .int (-1), .int (-1), .int 0, .int 0, .int 0, .ref (ma 8), .int 0, .int 0, .int (-1), .int 0, .int 0, .int 0, .ref (ma 9), .int 0, .int 0, .ref (ma 10), .ref (ma 11), .ref (ma 12), .int 0, .int 0])), (ma 1, .inl (kc 0, 2880, .inl at0))]) [0, 1] rfl
      have hDc := hD.sub (ws' := [(ma 0, .inr (11, [.ref (ma 1), .ref (ma 2), .int 0, .long 0, .long 1, .ref (ma 3), .ref (ma 4), .ref (ma 5), .ref (ma 6), .ref (ma 7), .int 0, .int 0, .int 0, .int 0, .int 0, .int 0, .int (-1), .int (-1), .int 0, .int 0, .int 0, .ref (ma 8), .int 0, .int 0, .int (-1), .int 0, .int 0, .int 0, .ref (ma 9), .int 0, .int 0, .ref (ma 10), .ref (ma 11), .ref (ma 12), .int 0, .int 0])), (ma 1, .inl (kc 0, 2880, .inl at0))]) [0, 1] (by decide) rfl
      have hFc := va_free (wc := [(ma 0, .inr (11, [.ref (ma 1), .ref (ma 2), .int 0, .long 0, .long 1, .ref (ma 3), .ref (ma 4), .ref (ma 5), .ref (ma 6), .ref (ma 7), .int 0, .int 0, .int 0, .int 0, .int 0, .int 0, .int (-1), .int (-1), .int 0, .int 0, .int 0, .ref (ma 8), .int 0, .int 0, .int (-1), .int 0, .int 0, .int 0, .ref (ma 9), .int 0, .int 0, .ref (ma 10), .ref (ma 11), .ref (ma 12), .int 0, .int 0])), (ma 1, .inl (kc 0, 2880, .inl at0))]) hD hS hA [0, 1] rfl
      refine va_calli (va_runV (As := [.int a0]) (rest := []) ⟨hx, hb, hml, hown, hts⟩ (m_wrongStep l D kc s.heap.size ma a0) (cwV 1 hts gq_step_263_m_wrongStep rfl rfl rfl (by decide +kernel) ⟨Nat.le_of_ble_eq_true rfl, Nat.le_of_ble_eq_true rfl⟩) (preV_ok hPc hDc hE (ci := 11) (q0 := 0) rfl rfl) rfl rfl hl.1 rfl (lv_room (Nat.le_of_ble_eq_true rfl)) dX12_step_15 ⟨Nat.le_of_ble_eq_true rfl, Nat.le_of_ble_eq_true rfl⟩) hS (fun q _ h => hFc q h) hFc (fun r_15_2 u9 t9 H locs ht hvm hw hB hz1 hk1 hS => ?_)
      obtain ⟨hP1, hD1⟩ := hB
      rw [ht] at hP1
      obtain ⟨hP, hD⟩ := va_join (wr := []) (w1 := [(ma 0, .inr (11, [.ref (ma 1), .ref (ma 2), .int 0, .long 0, .long 1, .ref (ma 3), .ref (ma 4), .ref (ma 5), .ref (ma 6), .ref (ma 7), .int 0, .int 0, .int 0, .int 0, .int 0, .int 0, .int (-1), .int (-1), .int 0, .int 0, .int 0, .ref (ma 8), .int 0, .int 0, .int (-1), .int 0, .int 0, .int 0, .ref (ma 9), .int 0, .int 0, .ref (ma 10), .ref (ma 11), .ref (ma 12), .int 0, .int 0])), (ma 1, .inl (kc 0, 2880, .inl at0))]) hP hD [0, 1] [] rfl rfl (by decide) (by decide) hk1 hFc hP1 hD1
      have hP : va_P D vwCl [(ma 0, .inr (11, [.ref (ma 1), .ref (ma 2), .int 0, .long 0, .long 1, .ref (ma 3), .ref (ma 4), .ref (ma 5), .ref (ma 6), .ref (ma 7), .int 0, .int 0, .int 0, .int 0, .int 0, .int 0, .int (-1), .int (-1), .int 0, .int 0, .int 0, .ref (ma 8), .int 0, .int 0, .int (-1), .int 0, .int 0, .int 0, .ref (ma 9), .int 0, .int 0, .ref (ma 10), .ref (ma 11), .ref (ma 12), .int 0, .int 0])), (ma 1, .inl (kc 0, 2880, .inl at0))] H := hP
      have hD : va_D A [(ma 0, .inr (11, [.ref (ma 1), .ref (ma 2), .int 0, .long 0, .long 1, .ref (ma 3), .ref (ma 4), .ref (ma 5), .ref (ma 6), .ref (ma 7), .int 0, .int 0, .int 0, .int 0, .int 0, .int 0, .int (-1), .int (-1), .int 0, .int 0, .int 0, .ref (ma 8), .int 0, .int 0, .int (-1), .int 0, .int 0, .int 0, .ref (ma 9), .int 0, .int 0, .ref (ma 10), .ref (ma 11), .ref (ma 12), .int 0, .int 0])), (ma 1, .inl (kc 0, 2880, .inl at0))] := hD
      subst hw
      refine lv_istore_n (lv' := [(3, .int 1), (0, .ref (ma 0)), (1, .int a0), (2, .int a1)]) hx hb dX12_step_18 rfl hl (by decide) rfl (fun ls hl => ?_)
      refine lv_iload_n hx hb dX12_step_19 rfl (lv_at hl 0 rfl) ?_
      refine lv_if_le (tgt := 29) hx hb dX12_step_20 (by decide) (fun h => absurd h (by decide)) (fun _ => ?_)
      refine lv_aload_n hx hb dX12_step_23 rfl (lv_at hl 1 rfl) ?_
      refine lv_iload_n hx hb dX12_step_24 rfl (lv_at hl 0 rfl) ?_
      have hPc := hP.sub (ws' := [(ma 0, .inr (11, [.ref (ma 1), .ref (ma 2), .int 0, .long 0, .long 1, .ref (ma 3), .ref (ma 4), .ref (ma 5), .ref (ma 6), .ref (ma 7), .int 0, .int 0, .int 0, .int 0, .int 0, .int 0, .int (-1), .int (-1), .int 0, .int 0, .int 0, .ref (ma 8), .int 0, .int 0, .int (-1), .int 0, .int 0, .int 0, .ref (ma 9), .int 0, .int 0, .ref (ma 10), .ref (ma 11), .ref (ma 12), .int 0, .int 0]))]) [0] rfl
      have hDc := hD.sub (ws' := [(ma 0, .inr (11, [.ref (ma 1), .ref (ma 2), .int 0, .long 0, .long 1, .ref (ma 3), .ref (ma 4), .ref (ma 5), .ref (ma 6), .ref (ma 7), .int 0, .int 0, .int 0, .int 0, .int 0, .int 0, .int (-1), .int (-1), .int 0, .int 0, .int 0, .ref (ma 8), .int 0, .int 0, .int (-1), .int 0, .int 0, .int 0, .ref (ma 9), .int 0, .int 0, .ref (ma 10), .ref (ma 11), .ref (ma 12), .int 0, .int 0]))]) [0] (by decide) rfl
      have hFc := va_free (wc := [(ma 0, .inr (11, [.ref (ma 1), .ref (ma 2), .int 0, .long 0, .long 1, .ref (ma 3), .ref (ma 4), .ref (ma 5), .ref (ma 6), .ref (ma 7), .int 0, .int 0, .int 0, .int 0, .int 0, .int 0, .int (-1), .int (-1), .int 0, .int 0, .int 0, .ref (ma 8), .int 0, .int 0, .int (-1), .int 0, .int 0, .int 0, .ref (ma 9), .int 0, .int 0, .ref (ma 10), .ref (ma 11), .ref (ma 12), .int 0, .int 0]))]) hD hS hA [0] rfl
      refine va_calli (va_runV (As := [.int 1]) (rest := []) ⟨hx, hb, hml, hown, hts⟩ (m_refuse l D kc H.size ma 0 0 1 0 0 0 0 0 0 (-1) (-1) 0 0 0 0 0 (-1) 0 0 0 0 0 0 0 1) (cwV 1 hts gq_step_72_m_refuse rfl rfl rfl (by decide +kernel) ⟨Nat.le_of_ble_eq_true rfl, Nat.le_of_ble_eq_true rfl⟩) (preV_ok hPc hDc hE (ci := 11) (q0 := 0) rfl rfl) rfl rfl hl.1 rfl (lv_room (Nat.le_of_ble_eq_true rfl)) dX12_step_25 ⟨Nat.le_of_ble_eq_true rfl, Nat.le_of_ble_eq_true rfl⟩) hS (fun q _ h => hFc q h) hFc (fun r_25_2 u9 t9 H locs ht hvm hw hB hz1 hk1 hS => ?_)
      obtain ⟨hP1, hD1⟩ := hB
      rw [ht] at hP1
      obtain ⟨hP, hD⟩ := va_join (wr := [(ma 1, .inl (kc 0, 2880, .inl at0))]) (w1 := [(ma 0, .inr (11, [.ref (ma 1), .ref (ma 2), .int 1, .long 0, .long 1, .ref (ma 3), .ref (ma 4), .ref (ma 5), .ref (ma 6), .ref (ma 7), .int 0, .int 0, .int 0, .int 0, .int 0, .int 0, .int (-1), .int (-1), .int 0, .int 0, .int 0, .ref (ma 8), .int 0, .int 0, .int (-1), .int 0, .int 0, .int 0, .ref (ma 9), .int 0, .int 0, .ref (ma 10), .ref (ma 11), .ref (ma 12), .int 0, .int 0]))]) hP hD [0] [1] rfl rfl (by decide) (by decide) hk1 hFc hP1 hD1
      have hP : va_P D vwCl [(ma 1, .inl (kc 0, 2880, .inl at0)), (ma 0, .inr (11, [.ref (ma 1), .ref (ma 2), .int 1, .long 0, .long 1, .ref (ma 3), .ref (ma 4), .ref (ma 5), .ref (ma 6), .ref (ma 7), .int 0, .int 0, .int 0, .int 0, .int 0, .int 0, .int (-1), .int (-1), .int 0, .int 0, .int 0, .ref (ma 8), .int 0, .int 0, .int (-1), .int 0, .int 0, .int 0, .ref (ma 9), .int 0, .int 0, .ref (ma 10), .ref (ma 11), .ref (ma 12), .int 0, .int 0]))] H := hP
      have hD : va_D A [(ma 1, .inl (kc 0, 2880, .inl at0)), (ma 0, .inr (11, [.ref (ma 1), .ref (ma 2), .int 1, .long 0, .long 1, .ref (ma 3), .ref (ma 4), .ref (ma 5), .ref (ma 6), .ref (ma 7), .int 0, .int 0, .int 0, .int 0, .int 0, .int 0, .int (-1), .int (-1), .int 0, .int 0, .int 0, .ref (ma 8), .int 0, .int 0, .int (-1), .int 0, .int 0, .int 0, .ref (ma 9), .int 0, .int 0, .ref (ma 10), .ref (ma 11), .ref (ma 12), .int 0, .int 0]))] := hD
      subst hw
      exact W.iret (v := (-1)) hx hb hr (fun t9 ht hW => ⟨⟨(-1), (), rfl, rfl, trivial⟩, hS.F ht⟩) hS.2.2 dX12_step_28
    · refine lv_iconst (v := 1) hx hb dX12_step_9 (by decide) ?_
      refine lv_goto (tgt := 18) hx hb dX12_step_10 (by decide) ?_
      refine lv_istore_n (lv' := [(3, .int 1), (0, .ref (ma 0)), (1, .int a0), (2, .int a1)]) hx hb dX12_step_18 rfl hl (by decide) rfl (fun ls hl => ?_)
      refine lv_iload_n hx hb dX12_step_19 rfl (lv_at hl 0 rfl) ?_
      refine lv_if_le (tgt := 29) hx hb dX12_step_20 (by decide) (fun h => absurd h (by decide)) (fun _ => ?_)
      refine lv_aload_n hx hb dX12_step_23 rfl (lv_at hl 1 rfl) ?_
      refine lv_iload_n hx hb dX12_step_24 rfl (lv_at hl 0 rfl) ?_
      have hPc := hP.sub (ws' := [(ma 0, .inr (11, [.ref (ma 1), .ref (ma 2), .int 0, .long 0, .long 1, .ref (ma 3), .ref (ma 4), .ref (ma 5), .ref (ma 6), .ref (ma 7), .int 0, .int 0, .int 0, .int 0, .int 0, .int 0, .int (-1), .int (-1), .int 0, .int 0, .int 0, .ref (ma 8), .int 0, .int 0, .int (-1), .int 0, .int 0, .int 0, .ref (ma 9), .int 0, .int 0, .ref (ma 10), .ref (ma 11), .ref (ma 12), .int 0, .int 0]))]) [0] rfl
      have hDc := hD.sub (ws' := [(ma 0, .inr (11, [.ref (ma 1), .ref (ma 2), .int 0, .long 0, .long 1, .ref (ma 3), .ref (ma 4), .ref (ma 5), .ref (ma 6), .ref (ma 7), .int 0, .int 0, .int 0, .int 0, .int 0, .int 0, .int (-1), .int (-1), .int 0, .int 0, .int 0, .ref (ma 8), .int 0, .int 0, .int (-1), .int 0, .int 0, .int 0, .ref (ma 9), .int 0, .int 0, .ref (ma 10), .ref (ma 11), .ref (ma 12), .int 0, .int 0]))]) [0] (by decide) rfl
      have hFc := va_free (wc := [(ma 0, .inr (11, [.ref (ma 1), .ref (ma 2), .int 0, .long 0, .long 1, .ref (ma 3), .ref (ma 4), .ref (ma 5), .ref (ma 6), .ref (ma 7), .int 0, .int 0, .int 0, .int 0, .int 0, .int 0, .int (-1), .int (-1), .int 0, .int 0, .int 0, .ref (ma 8), .int 0, .int 0, .int (-1), .int 0, .int 0, .int 0, .ref (ma 9), .int 0, .int 0, .ref (ma 10), .ref (ma 11), .ref (ma 12), .int 0, .int 0]))]) hD hS hA [0] rfl
      refine va_calli (va_runV (As := [.int 1]) (rest := []) ⟨hx, hb, hml, hown, hts⟩ (m_refuse l D kc s.heap.size ma 0 0 1 0 0 0 0 0 0 (-1) (-1) 0 0 0 0 0 (-1) 0 0 0 0 0 0 0 1) (cwV 1 hts gq_step_72_m_refuse rfl rfl rfl (by decide +kernel) ⟨Nat.le_of_ble_eq_true rfl, Nat.le_of_ble_eq_true rfl⟩) (preV_ok hPc hDc hE (ci := 11) (q0 := 0) rfl rfl) rfl rfl hl.1 rfl (lv_room (Nat.le_of_ble_eq_true rfl)) dX12_step_25 ⟨Nat.le_of_ble_eq_true rfl, Nat.le_of_ble_eq_true rfl⟩) hS (fun q _ h => hFc q h) hFc (fun r_25_2 u9 t9 H locs ht hvm hw hB hz1 hk1 hS => ?_)
      obtain ⟨hP1, hD1⟩ := hB
      rw [ht] at hP1
      obtain ⟨hP, hD⟩ := va_join (wr := [(ma 1, .inl (kc 0, 2880, .inl at0))]) (w1 := [(ma 0, .inr (11, [.ref (ma 1), .ref (ma 2), .int 1, .long 0, .long 1, .ref (ma 3), .ref (ma 4), .ref (ma 5), .ref (ma 6), .ref (ma 7), .int 0, .int 0, .int 0, .int 0, .int 0, .int 0, .int (-1), .int (-1), .int 0, .int 0, .int 0, .ref (ma 8), .int 0, .int 0, .int (-1), .int 0, .int 0, .int 0, .ref (ma 9), .int 0, .int 0, .ref (ma 10), .ref (ma 11), .ref (ma 12), .int 0, .int 0]))]) hP hD [0] [1] rfl rfl (by decide) (by decide) hk1 hFc hP1 hD1
      have hP : va_P D vwCl [(ma 1, .inl (kc 0, 2880, .inl at0)), (ma 0, .inr (11, [.ref (ma 1), .ref (ma 2), .int 1, .long 0, .long 1, .ref (ma 3), .ref (ma 4), .ref (ma 5), .ref (ma 6), .ref (ma 7), .int 0, .int 0, .int 0, .int 0, .int 0, .int 0, .int (-1), .int (-1), .int 0, .int 0, .int 0, .ref (ma 8), .int 0, .int 0, .int (-1), .int 0, .int 0, .int 0, .ref (ma 9), .int 0, .int 0, .ref (ma 10), .ref (ma 11), .ref (ma 12), .int 0, .int 0]))] H := hP
      have hD : va_D A [(ma 1, .inl (kc 0, 2880, .inl at0)), (ma 0, .inr (11, [.ref (ma 1), .ref (ma 2), .int 1, .long 0, .long 1, .ref (ma 3), .ref (ma 4), .ref (ma 5), .ref (ma 6), .ref (ma 7), .int 0, .int 0, .int 0, .int 0, .int 0, .int 0, .int (-1), .int (-1), .int 0, .int 0, .int 0, .ref (ma 8), .int 0, .int 0, .int (-1), .int 0, .int 0, .int 0, .ref (ma 9), .int 0, .int 0, .ref (ma 10), .ref (ma 11), .ref (ma 12), .int 0, .int 0]))] := hD
      subst hw
      exact W.iret (v := (-1)) hx hb hr (fun t9 ht hW => ⟨⟨(-1), (), rfl, rfl, trivial⟩, hS.F ht⟩) hS.2.2 dX12_step_28
theorem dX12_quarrel_0 : decode cX12_quarrel 0 = .ok (.aload_n 0, 1) := by decide +kernel
theorem dX12_quarrel_1 : decode cX12_quarrel 1 = .ok (.iload_n 1, 1) := by decide +kernel
theorem dX12_quarrel_2 : decode cX12_quarrel 2 = .ok (.invokevirtual 269, 3) := by decide +kernel
theorem dX12_quarrel_5 : decode cX12_quarrel 5 = .ok (.ifCond .eq 30, 3) := by decide +kernel
theorem dX12_quarrel_35 : decode cX12_quarrel 35 = .ok (.aload_n 0, 1) := by decide +kernel
theorem dX12_quarrel_36 : decode cX12_quarrel 36 = .ok (.iconst 1, 1) := by decide +kernel
theorem dX12_quarrel_37 : decode cX12_quarrel 37 = .ok (.invokevirtual 72, 3) := by decide +kernel
theorem dX12_quarrel_40 : decode cX12_quarrel 40 = .ok (.ireturn, 1) := by decide +kernel
def vdq_quarrel : List Cond := [.code yX12_quarrel cX12_quarrel 3 (some .int), .methodLink RX12 269 yX12_isQuarrel, .code yX12_isQuarrel cX12_isQuarrel 2 (some .boolean), .fieldLink RX12 7 "SaltStreetModel" "at" "[I", .instanceMethod yX12_isQuarrel, .selects RX12 yX12_isQuarrel yX12_isQuarrel, .initialized RX12, .methodLink RX12 72 yX12_refuse, .code yX12_refuse cX12_refuse 2 (some .int), .fieldLink RX12 66 "SaltStreetModel" "status" "I", .instanceMethod yX12_refuse, .selects RX12 yX12_refuse yX12_refuse]
def vq_quarrel : List Cond := vdq_quarrel ++ (wsX120 ++ ([] : List Cond))
theorem iq_quarrel_X12 : ∀ w ∈ wsX120, w ∈ vq_quarrel := fun _ h => List.mem_append_right _ (List.mem_append_left _ h)
set_option maxRecDepth 20000 in
theorem gq_quarrel_269_m_isQuarrel : GoodIn vq_quarrel (wsV RX12 269 RX12 yX12_isQuarrel vm_isQuarrel) := (goodIn_app (goodIn_r _ [1, 4, 5, 6] rfl (by decide +kernel)) (goodIn_app (goodIn_r vdm_isQuarrel [2, 3] rfl (by decide +kernel)) (goodIn_app (goodIn_sub iq_quarrel_X12 gdX12) goodIn_nil)))
set_option maxRecDepth 20000 in
theorem gq_quarrel_72_m_refuse : GoodIn vq_quarrel (wsV RX12 72 RX12 yX12_refuse vm_refuse) := (goodIn_app (goodIn_r _ [7, 10, 11, 6] rfl (by decide +kernel)) (goodIn_app (goodIn_r vdm_refuse [8, 9] rfl (by decide +kernel)) (goodIn_app (goodIn_sub iq_quarrel_X12 gdX12) goodIn_nil)))
set_option maxHeartbeats 4000000 in
set_option maxRecDepth 100000 in
theorem q_quarrel (l : Launch) (D : va_G) (kc : Nat → ClassId) (sz : Nat) (ma : Nat → Nat) (a0 : Int32) (a1 : Int32) : Met l yX12_quarrel vq_quarrel ({ frames := 1, cells := 0, slots := 0, locals := 21 }) (va_Pc [.ref (ma 0), .int a0, .int a1] (wPre D kc [(ma 0, .inr (11, [.ref (ma 1), .ref (ma 2), .int 0, .long 0, .long 1, .ref (ma 3), .ref (ma 4), .ref (ma 5), .ref (ma 6), .ref (ma 7), .int 0, .int 0, .int 0, .int 0, .int 0, .int 0, .int (-1), .int (-1), .int 0, .int 0, .int 0, .ref (ma 8), .int 0, .int 0, .int (-1), .int 0, .int 0, .int 0, .ref (ma 9), .int 0, .int 0, .ref (ma 10), .ref (ma 11), .ref (ma 12), .int 0, .int 0])), (ma 1, .inl (kc 0, 2880, .inl at0))] sz)) (va_Qi (fun (r : Int32) (_ : Unit) => r = (-1)) wAny (va_A [(ma 0, .inr (11, [.ref (ma 1), .ref (ma 2), .int 0, .long 0, .long 1, .ref (ma 3), .ref (ma 4), .ref (ma 5), .ref (ma 6), .ref (ma 7), .int 0, .int 0, .int 0, .int 0, .int 0, .int 0, .int (-1), .int (-1), .int 0, .int 0, .int 0, .ref (ma 8), .int 0, .int 0, .int (-1), .int 0, .int 0, .int 0, .ref (ma 9), .int 0, .int 0, .ref (ma 10), .ref (ma 11), .ref (ma 12), .int 0, .int 0])), (ma 1, .inl (kc 0, 2880, .inl at0))] sz)) 0 0 (va_A [(ma 0, .inr (11, [.ref (ma 1), .ref (ma 2), .int 0, .long 0, .long 1, .ref (ma 3), .ref (ma 4), .ref (ma 5), .ref (ma 6), .ref (ma 7), .int 0, .int 0, .int 0, .int 0, .int 0, .int 0, .int (-1), .int (-1), .int 0, .int 0, .int 0, .ref (ma 8), .int 0, .int 0, .int (-1), .int 0, .int 0, .int 0, .ref (ma 9), .int 0, .int 0, .ref (ma 10), .ref (ma 11), .ref (ma 12), .int 0, .int 0])), (ma 1, .inl (kc 0, 2880, .inl at0))] sz) := by
  refine Met.ofW (cc := cX12_quarrel) (maxL := 3) (ret := (some .int)) (by decide) rfl ?_
  intro p e s m args below meth c s₁ B hml hv
  obtain ⟨rfl, hsz, hP, hE, hD0⟩ := hv
  have hx := B.exec
  have hb := B.bytes
  have hr := B.returns
  have hts := atoms_spec (ws := vq_quarrel) B.pre
  have hown : s.vm.findClass RX12 = some m.cls := findClass_of_methodNamed B.named
  have hlocks := B.notSynchronized
  subst hsz
  have hD := hD0.self (sz := s.heap.size)
  generalize hAe : va_A [(ma 0, .inr (11, [.ref (ma 1), .ref (ma 2), .int 0, .long 0, .long 1, .ref (ma 3), .ref (ma 4), .ref (ma 5), .ref (ma 6), .ref (ma 7), .int 0, .int 0, .int 0, .int 0, .int 0, .int 0, .int (-1), .int (-1), .int 0, .int 0, .int 0, .ref (ma 8), .int 0, .int 0, .int (-1), .int 0, .int 0, .int 0, .ref (ma 9), .int 0, .int 0, .ref (ma 10), .ref (ma 11), .ref (ma 12), .int 0, .int 0])), (ma 1, .inl (kc 0, 2880, .inl at0))] s.heap.size = A at hD ⊢
  have hA : ∀ q : Nat, s.heap.size ≤ q → A q := fun q h => by rw [← hAe]; exact Or.inr h
  have hS : va_S A s.heap s.heap [] := va_S.rf
  have hK := hE.1
  have hP : va_P D vwCl [(ma 0, .inr (11, [.ref (ma 1), .ref (ma 2), .int 0, .long 0, .long 1, .ref (ma 3), .ref (ma 4), .ref (ma 5), .ref (ma 6), .ref (ma 7), .int 0, .int 0, .int 0, .int 0, .int 0, .int 0, .int (-1), .int (-1), .int 0, .int 0, .int 0, .ref (ma 8), .int 0, .int 0, .int (-1), .int 0, .int 0, .int 0, .ref (ma 9), .int 0, .int 0, .ref (ma 10), .ref (ma 11), .ref (ma 12), .int 0, .int 0])), (ma 1, .inl (kc 0, 2880, .inl at0))] s.heap := hP
  have hl := lv_entry ([.ref (ma 0), .int a0, .int a1]) (n := 3) (Nat.le_of_ble_eq_true rfl)
  rw [lg_entry_eq]
  generalize (lg_sl ([.ref (ma 0), .int a0, .int a1]) ++ List.replicate (3 - (lg_sl ([.ref (ma 0), .int a0, .int a1])).length) Slot.unset).toArray = ls at hl ⊢
  have hl : lv_has ls 3 [(0, .ref (ma 0)), (1, .int a0), (2, .int a1)] := hl
  refine lv_aload_n hx hb dX12_quarrel_0 rfl (lv_at hl 0 rfl) ?_
  refine lv_iload_n hx hb dX12_quarrel_1 rfl (lv_at hl 1 rfl) ?_
  have hPc := hP.sub (ws' := [(ma 0, .inr (11, [.ref (ma 1), .ref (ma 2), .int 0, .long 0, .long 1, .ref (ma 3), .ref (ma 4), .ref (ma 5), .ref (ma 6), .ref (ma 7), .int 0, .int 0, .int 0, .int 0, .int 0, .int 0, .int (-1), .int (-1), .int 0, .int 0, .int 0, .ref (ma 8), .int 0, .int 0, .int (-1), .int 0, .int 0, .int 0, .ref (ma 9), .int 0, .int 0, .ref (ma 10), .ref (ma 11), .ref (ma 12), .int 0, .int 0])), (ma 1, .inl (kc 0, 2880, .inl at0))]) [0, 1] rfl
  have hDc := hD.sub (ws' := [(ma 0, .inr (11, [.ref (ma 1), .ref (ma 2), .int 0, .long 0, .long 1, .ref (ma 3), .ref (ma 4), .ref (ma 5), .ref (ma 6), .ref (ma 7), .int 0, .int 0, .int 0, .int 0, .int 0, .int 0, .int (-1), .int (-1), .int 0, .int 0, .int 0, .ref (ma 8), .int 0, .int 0, .int (-1), .int 0, .int 0, .int 0, .ref (ma 9), .int 0, .int 0, .ref (ma 10), .ref (ma 11), .ref (ma 12), .int 0, .int 0])), (ma 1, .inl (kc 0, 2880, .inl at0))]) [0, 1] (by decide) rfl
  have hFc := va_free (wc := [(ma 0, .inr (11, [.ref (ma 1), .ref (ma 2), .int 0, .long 0, .long 1, .ref (ma 3), .ref (ma 4), .ref (ma 5), .ref (ma 6), .ref (ma 7), .int 0, .int 0, .int 0, .int 0, .int 0, .int 0, .int (-1), .int (-1), .int 0, .int 0, .int 0, .ref (ma 8), .int 0, .int 0, .int (-1), .int 0, .int 0, .int 0, .ref (ma 9), .int 0, .int 0, .ref (ma 10), .ref (ma 11), .ref (ma 12), .int 0, .int 0])), (ma 1, .inl (kc 0, 2880, .inl at0))]) hD hS hA [0, 1] rfl
  refine va_calli (va_runV (As := [.int a0]) (rest := []) ⟨hx, hb, hml, hown, hts⟩ (m_isQuarrel l D kc s.heap.size ma a0) (cwV 1 hts gq_quarrel_269_m_isQuarrel rfl rfl rfl (by decide +kernel) ⟨Nat.le_of_ble_eq_true rfl, Nat.le_of_ble_eq_true rfl⟩) (preV_ok hPc hDc hE (ci := 11) (q0 := 0) rfl rfl) rfl rfl hl.1 rfl (lv_room (Nat.le_of_ble_eq_true rfl)) dX12_quarrel_2 ⟨Nat.le_of_ble_eq_true rfl, Nat.le_of_ble_eq_true rfl⟩) hS (fun q _ h => hFc q h) hFc (fun r_2 u9 t9 H locs ht hvm hw hB hz1 hk1 hS => ?_)
  obtain ⟨hP1, hD1⟩ := hB
  rw [ht] at hP1
  obtain ⟨hP, hD⟩ := va_join (wr := []) (w1 := [(ma 0, .inr (11, [.ref (ma 1), .ref (ma 2), .int 0, .long 0, .long 1, .ref (ma 3), .ref (ma 4), .ref (ma 5), .ref (ma 6), .ref (ma 7), .int 0, .int 0, .int 0, .int 0, .int 0, .int 0, .int (-1), .int (-1), .int 0, .int 0, .int 0, .ref (ma 8), .int 0, .int 0, .int (-1), .int 0, .int 0, .int 0, .ref (ma 9), .int 0, .int 0, .ref (ma 10), .ref (ma 11), .ref (ma 12), .int 0, .int 0])), (ma 1, .inl (kc 0, 2880, .inl at0))]) hP hD [0, 1] [] rfl rfl (by decide) (by decide) hk1 hFc hP1 hD1
  have hP : va_P D vwCl [(ma 0, .inr (11, [.ref (ma 1), .ref (ma 2), .int 0, .long 0, .long 1, .ref (ma 3), .ref (ma 4), .ref (ma 5), .ref (ma 6), .ref (ma 7), .int 0, .int 0, .int 0, .int 0, .int 0, .int 0, .int (-1), .int (-1), .int 0, .int 0, .int 0, .ref (ma 8), .int 0, .int 0, .int (-1), .int 0, .int 0, .int 0, .ref (ma 9), .int 0, .int 0, .ref (ma 10), .ref (ma 11), .ref (ma 12), .int 0, .int 0])), (ma 1, .inl (kc 0, 2880, .inl at0))] H := hP
  have hD : va_D A [(ma 0, .inr (11, [.ref (ma 1), .ref (ma 2), .int 0, .long 0, .long 1, .ref (ma 3), .ref (ma 4), .ref (ma 5), .ref (ma 6), .ref (ma 7), .int 0, .int 0, .int 0, .int 0, .int 0, .int 0, .int (-1), .int (-1), .int 0, .int 0, .int 0, .ref (ma 8), .int 0, .int 0, .int (-1), .int 0, .int 0, .int 0, .ref (ma 9), .int 0, .int 0, .ref (ma 10), .ref (ma 11), .ref (ma 12), .int 0, .int 0])), (ma 1, .inl (kc 0, 2880, .inl at0))] := hD
  subst hw
  refine lv_if_eq (tgt := 35) hx hb dX12_quarrel_5 (by decide) (fun _ => ?_) (fun h => absurd (by decide) h)
  refine lv_aload_n hx hb dX12_quarrel_35 rfl (lv_at hl 0 rfl) ?_
  refine lv_iconst (v := 1) hx hb dX12_quarrel_36 (by decide) ?_
  have hPc := hP.sub (ws' := [(ma 0, .inr (11, [.ref (ma 1), .ref (ma 2), .int 0, .long 0, .long 1, .ref (ma 3), .ref (ma 4), .ref (ma 5), .ref (ma 6), .ref (ma 7), .int 0, .int 0, .int 0, .int 0, .int 0, .int 0, .int (-1), .int (-1), .int 0, .int 0, .int 0, .ref (ma 8), .int 0, .int 0, .int (-1), .int 0, .int 0, .int 0, .ref (ma 9), .int 0, .int 0, .ref (ma 10), .ref (ma 11), .ref (ma 12), .int 0, .int 0]))]) [0] rfl
  have hDc := hD.sub (ws' := [(ma 0, .inr (11, [.ref (ma 1), .ref (ma 2), .int 0, .long 0, .long 1, .ref (ma 3), .ref (ma 4), .ref (ma 5), .ref (ma 6), .ref (ma 7), .int 0, .int 0, .int 0, .int 0, .int 0, .int 0, .int (-1), .int (-1), .int 0, .int 0, .int 0, .ref (ma 8), .int 0, .int 0, .int (-1), .int 0, .int 0, .int 0, .ref (ma 9), .int 0, .int 0, .ref (ma 10), .ref (ma 11), .ref (ma 12), .int 0, .int 0]))]) [0] (by decide) rfl
  have hFc := va_free (wc := [(ma 0, .inr (11, [.ref (ma 1), .ref (ma 2), .int 0, .long 0, .long 1, .ref (ma 3), .ref (ma 4), .ref (ma 5), .ref (ma 6), .ref (ma 7), .int 0, .int 0, .int 0, .int 0, .int 0, .int 0, .int (-1), .int (-1), .int 0, .int 0, .int 0, .ref (ma 8), .int 0, .int 0, .int (-1), .int 0, .int 0, .int 0, .ref (ma 9), .int 0, .int 0, .ref (ma 10), .ref (ma 11), .ref (ma 12), .int 0, .int 0]))]) hD hS hA [0] rfl
  refine va_calli (va_runV (As := [.int 1]) (rest := []) ⟨hx, hb, hml, hown, hts⟩ (m_refuse l D kc H.size ma 0 0 1 0 0 0 0 0 0 (-1) (-1) 0 0 0 0 0 (-1) 0 0 0 0 0 0 0 1) (cwV 1 hts gq_quarrel_72_m_refuse rfl rfl rfl (by decide +kernel) ⟨Nat.le_of_ble_eq_true rfl, Nat.le_of_ble_eq_true rfl⟩) (preV_ok hPc hDc hE (ci := 11) (q0 := 0) rfl rfl) rfl rfl hl.1 rfl (lv_room (Nat.le_of_ble_eq_true rfl)) dX12_quarrel_37 ⟨Nat.le_of_ble_eq_true rfl, Nat.le_of_ble_eq_true rfl⟩) hS (fun q _ h => hFc q h) hFc (fun r_37 u9 t9 H locs ht hvm hw hB hz1 hk1 hS => ?_)
  obtain ⟨hP1, hD1⟩ := hB
  rw [ht] at hP1
  obtain ⟨hP, hD⟩ := va_join (wr := [(ma 1, .inl (kc 0, 2880, .inl at0))]) (w1 := [(ma 0, .inr (11, [.ref (ma 1), .ref (ma 2), .int 1, .long 0, .long 1, .ref (ma 3), .ref (ma 4), .ref (ma 5), .ref (ma 6), .ref (ma 7), .int 0, .int 0, .int 0, .int 0, .int 0, .int 0, .int (-1), .int (-1), .int 0, .int 0, .int 0, .ref (ma 8), .int 0, .int 0, .int (-1), .int 0, .int 0, .int 0, .ref (ma 9), .int 0, .int 0, .ref (ma 10), .ref (ma 11), .ref (ma 12), .int 0, .int 0]))]) hP hD [0] [1] rfl rfl (by decide) (by decide) hk1 hFc hP1 hD1
  have hP : va_P D vwCl [(ma 1, .inl (kc 0, 2880, .inl at0)), (ma 0, .inr (11, [.ref (ma 1), .ref (ma 2), .int 1, .long 0, .long 1, .ref (ma 3), .ref (ma 4), .ref (ma 5), .ref (ma 6), .ref (ma 7), .int 0, .int 0, .int 0, .int 0, .int 0, .int 0, .int (-1), .int (-1), .int 0, .int 0, .int 0, .ref (ma 8), .int 0, .int 0, .int (-1), .int 0, .int 0, .int 0, .ref (ma 9), .int 0, .int 0, .ref (ma 10), .ref (ma 11), .ref (ma 12), .int 0, .int 0]))] H := hP
  have hD : va_D A [(ma 1, .inl (kc 0, 2880, .inl at0)), (ma 0, .inr (11, [.ref (ma 1), .ref (ma 2), .int 1, .long 0, .long 1, .ref (ma 3), .ref (ma 4), .ref (ma 5), .ref (ma 6), .ref (ma 7), .int 0, .int 0, .int 0, .int 0, .int 0, .int 0, .int (-1), .int (-1), .int 0, .int 0, .int 0, .ref (ma 8), .int 0, .int 0, .int (-1), .int 0, .int 0, .int 0, .ref (ma 9), .int 0, .int 0, .ref (ma 10), .ref (ma 11), .ref (ma 12), .int 0, .int 0]))] := hD
  subst hw
  exact W.iret (v := (-1)) hx hb hr (fun t9 ht hW => ⟨⟨(-1), (), rfl, rfl, trivial⟩, hS.F ht⟩) hS.2.2 dX12_quarrel_40
theorem dX12_share_0 : decode cX12_share 0 = .ok (.aload_n 0, 1) := by decide +kernel
theorem dX12_share_1 : decode cX12_share 1 = .ok (.iload_n 1, 1) := by decide +kernel
theorem dX12_share_2 : decode cX12_share 2 = .ok (.invokevirtual 269, 3) := by decide +kernel
theorem dX12_share_5 : decode cX12_share 5 = .ok (.ifCond .eq 12, 3) := by decide +kernel
theorem dX12_share_17 : decode cX12_share 17 = .ok (.aload_n 0, 1) := by decide +kernel
theorem dX12_share_18 : decode cX12_share 18 = .ok (.iconst 1, 1) := by decide +kernel
theorem dX12_share_19 : decode cX12_share 19 = .ok (.invokevirtual 72, 3) := by decide +kernel
theorem dX12_share_22 : decode cX12_share 22 = .ok (.ireturn, 1) := by decide +kernel
def vdq_share : List Cond := [.code yX12_share cX12_share 4 (some .int), .methodLink RX12 269 yX12_isQuarrel, .code yX12_isQuarrel cX12_isQuarrel 2 (some .boolean), .fieldLink RX12 7 "SaltStreetModel" "at" "[I", .instanceMethod yX12_isQuarrel, .selects RX12 yX12_isQuarrel yX12_isQuarrel, .initialized RX12, .methodLink RX12 72 yX12_refuse, .code yX12_refuse cX12_refuse 2 (some .int), .fieldLink RX12 66 "SaltStreetModel" "status" "I", .instanceMethod yX12_refuse, .selects RX12 yX12_refuse yX12_refuse]
def vq_share : List Cond := vdq_share ++ (wsX120 ++ ([] : List Cond))
theorem iq_share_X12 : ∀ w ∈ wsX120, w ∈ vq_share := fun _ h => List.mem_append_right _ (List.mem_append_left _ h)
set_option maxRecDepth 20000 in
theorem gq_share_269_m_isQuarrel : GoodIn vq_share (wsV RX12 269 RX12 yX12_isQuarrel vm_isQuarrel) := (goodIn_app (goodIn_r _ [1, 4, 5, 6] rfl (by decide +kernel)) (goodIn_app (goodIn_r vdm_isQuarrel [2, 3] rfl (by decide +kernel)) (goodIn_app (goodIn_sub iq_share_X12 gdX12) goodIn_nil)))
set_option maxRecDepth 20000 in
theorem gq_share_72_m_refuse : GoodIn vq_share (wsV RX12 72 RX12 yX12_refuse vm_refuse) := (goodIn_app (goodIn_r _ [7, 10, 11, 6] rfl (by decide +kernel)) (goodIn_app (goodIn_r vdm_refuse [8, 9] rfl (by decide +kernel)) (goodIn_app (goodIn_sub iq_share_X12 gdX12) goodIn_nil)))
set_option maxHeartbeats 4000000 in
set_option maxRecDepth 100000 in
theorem q_share (l : Launch) (D : va_G) (kc : Nat → ClassId) (sz : Nat) (ma : Nat → Nat) (a0 : Int32) (a1 : Int32) : Met l yX12_share vq_share ({ frames := 1, cells := 0, slots := 0, locals := 21 }) (va_Pc [.ref (ma 0), .int a0, .int a1] (wPre D kc [(ma 0, .inr (11, [.ref (ma 1), .ref (ma 2), .int 0, .long 0, .long 1, .ref (ma 3), .ref (ma 4), .ref (ma 5), .ref (ma 6), .ref (ma 7), .int 0, .int 0, .int 0, .int 0, .int 0, .int 0, .int (-1), .int (-1), .int 0, .int 0, .int 0, .ref (ma 8), .int 0, .int 0, .int (-1), .int 0, .int 0, .int 0, .ref (ma 9), .int 0, .int 0, .ref (ma 10), .ref (ma 11), .ref (ma 12), .int 0, .int 0])), (ma 1, .inl (kc 0, 2880, .inl at0))] sz)) (va_Qi (fun (r : Int32) (_ : Unit) => r = (-1)) wAny (va_A [(ma 0, .inr (11, [.ref (ma 1), .ref (ma 2), .int 0, .long 0, .long 1, .ref (ma 3), .ref (ma 4), .ref (ma 5), .ref (ma 6), .ref (ma 7), .int 0, .int 0, .int 0, .int 0, .int 0, .int 0, .int (-1), .int (-1), .int 0, .int 0, .int 0, .ref (ma 8), .int 0, .int 0, .int (-1), .int 0, .int 0, .int 0, .ref (ma 9), .int 0, .int 0, .ref (ma 10), .ref (ma 11), .ref (ma 12), .int 0, .int 0])), (ma 1, .inl (kc 0, 2880, .inl at0))] sz)) 0 0 (va_A [(ma 0, .inr (11, [.ref (ma 1), .ref (ma 2), .int 0, .long 0, .long 1, .ref (ma 3), .ref (ma 4), .ref (ma 5), .ref (ma 6), .ref (ma 7), .int 0, .int 0, .int 0, .int 0, .int 0, .int 0, .int (-1), .int (-1), .int 0, .int 0, .int 0, .ref (ma 8), .int 0, .int 0, .int (-1), .int 0, .int 0, .int 0, .ref (ma 9), .int 0, .int 0, .ref (ma 10), .ref (ma 11), .ref (ma 12), .int 0, .int 0])), (ma 1, .inl (kc 0, 2880, .inl at0))] sz) := by
  refine Met.ofW (cc := cX12_share) (maxL := 4) (ret := (some .int)) (by decide) rfl ?_
  intro p e s m args below meth c s₁ B hml hv
  obtain ⟨rfl, hsz, hP, hE, hD0⟩ := hv
  have hx := B.exec
  have hb := B.bytes
  have hr := B.returns
  have hts := atoms_spec (ws := vq_share) B.pre
  have hown : s.vm.findClass RX12 = some m.cls := findClass_of_methodNamed B.named
  have hlocks := B.notSynchronized
  subst hsz
  have hD := hD0.self (sz := s.heap.size)
  generalize hAe : va_A [(ma 0, .inr (11, [.ref (ma 1), .ref (ma 2), .int 0, .long 0, .long 1, .ref (ma 3), .ref (ma 4), .ref (ma 5), .ref (ma 6), .ref (ma 7), .int 0, .int 0, .int 0, .int 0, .int 0, .int 0, .int (-1), .int (-1), .int 0, .int 0, .int 0, .ref (ma 8), .int 0, .int 0, .int (-1), .int 0, .int 0, .int 0, .ref (ma 9), .int 0, .int 0, .ref (ma 10), .ref (ma 11), .ref (ma 12), .int 0, .int 0])), (ma 1, .inl (kc 0, 2880, .inl at0))] s.heap.size = A at hD ⊢
  have hA : ∀ q : Nat, s.heap.size ≤ q → A q := fun q h => by rw [← hAe]; exact Or.inr h
  have hS : va_S A s.heap s.heap [] := va_S.rf
  have hK := hE.1
  have hP : va_P D vwCl [(ma 0, .inr (11, [.ref (ma 1), .ref (ma 2), .int 0, .long 0, .long 1, .ref (ma 3), .ref (ma 4), .ref (ma 5), .ref (ma 6), .ref (ma 7), .int 0, .int 0, .int 0, .int 0, .int 0, .int 0, .int (-1), .int (-1), .int 0, .int 0, .int 0, .ref (ma 8), .int 0, .int 0, .int (-1), .int 0, .int 0, .int 0, .ref (ma 9), .int 0, .int 0, .ref (ma 10), .ref (ma 11), .ref (ma 12), .int 0, .int 0])), (ma 1, .inl (kc 0, 2880, .inl at0))] s.heap := hP
  have hl := lv_entry ([.ref (ma 0), .int a0, .int a1]) (n := 4) (Nat.le_of_ble_eq_true rfl)
  rw [lg_entry_eq]
  generalize (lg_sl ([.ref (ma 0), .int a0, .int a1]) ++ List.replicate (4 - (lg_sl ([.ref (ma 0), .int a0, .int a1])).length) Slot.unset).toArray = ls at hl ⊢
  have hl : lv_has ls 4 [(0, .ref (ma 0)), (1, .int a0), (2, .int a1)] := hl
  refine lv_aload_n hx hb dX12_share_0 rfl (lv_at hl 0 rfl) ?_
  refine lv_iload_n hx hb dX12_share_1 rfl (lv_at hl 1 rfl) ?_
  have hPc := hP.sub (ws' := [(ma 0, .inr (11, [.ref (ma 1), .ref (ma 2), .int 0, .long 0, .long 1, .ref (ma 3), .ref (ma 4), .ref (ma 5), .ref (ma 6), .ref (ma 7), .int 0, .int 0, .int 0, .int 0, .int 0, .int 0, .int (-1), .int (-1), .int 0, .int 0, .int 0, .ref (ma 8), .int 0, .int 0, .int (-1), .int 0, .int 0, .int 0, .ref (ma 9), .int 0, .int 0, .ref (ma 10), .ref (ma 11), .ref (ma 12), .int 0, .int 0])), (ma 1, .inl (kc 0, 2880, .inl at0))]) [0, 1] rfl
  have hDc := hD.sub (ws' := [(ma 0, .inr (11, [.ref (ma 1), .ref (ma 2), .int 0, .long 0, .long 1, .ref (ma 3), .ref (ma 4), .ref (ma 5), .ref (ma 6), .ref (ma 7), .int 0, .int 0, .int 0, .int 0, .int 0, .int 0, .int (-1), .int (-1), .int 0, .int 0, .int 0, .ref (ma 8), .int 0, .int 0, .int (-1), .int 0, .int 0, .int 0, .ref (ma 9), .int 0, .int 0, .ref (ma 10), .ref (ma 11), .ref (ma 12), .int 0, .int 0])), (ma 1, .inl (kc 0, 2880, .inl at0))]) [0, 1] (by decide) rfl
  have hFc := va_free (wc := [(ma 0, .inr (11, [.ref (ma 1), .ref (ma 2), .int 0, .long 0, .long 1, .ref (ma 3), .ref (ma 4), .ref (ma 5), .ref (ma 6), .ref (ma 7), .int 0, .int 0, .int 0, .int 0, .int 0, .int 0, .int (-1), .int (-1), .int 0, .int 0, .int 0, .ref (ma 8), .int 0, .int 0, .int (-1), .int 0, .int 0, .int 0, .ref (ma 9), .int 0, .int 0, .ref (ma 10), .ref (ma 11), .ref (ma 12), .int 0, .int 0])), (ma 1, .inl (kc 0, 2880, .inl at0))]) hD hS hA [0, 1] rfl
  refine va_calli (va_runV (As := [.int a0]) (rest := []) ⟨hx, hb, hml, hown, hts⟩ (m_isQuarrel l D kc s.heap.size ma a0) (cwV 1 hts gq_share_269_m_isQuarrel rfl rfl rfl (by decide +kernel) ⟨Nat.le_of_ble_eq_true rfl, Nat.le_of_ble_eq_true rfl⟩) (preV_ok hPc hDc hE (ci := 11) (q0 := 0) rfl rfl) rfl rfl hl.1 rfl (lv_room (Nat.le_of_ble_eq_true rfl)) dX12_share_2 ⟨Nat.le_of_ble_eq_true rfl, Nat.le_of_ble_eq_true rfl⟩) hS (fun q _ h => hFc q h) hFc (fun r_2 u9 t9 H locs ht hvm hw hB hz1 hk1 hS => ?_)
  obtain ⟨hP1, hD1⟩ := hB
  rw [ht] at hP1
  obtain ⟨hP, hD⟩ := va_join (wr := []) (w1 := [(ma 0, .inr (11, [.ref (ma 1), .ref (ma 2), .int 0, .long 0, .long 1, .ref (ma 3), .ref (ma 4), .ref (ma 5), .ref (ma 6), .ref (ma 7), .int 0, .int 0, .int 0, .int 0, .int 0, .int 0, .int (-1), .int (-1), .int 0, .int 0, .int 0, .ref (ma 8), .int 0, .int 0, .int (-1), .int 0, .int 0, .int 0, .ref (ma 9), .int 0, .int 0, .ref (ma 10), .ref (ma 11), .ref (ma 12), .int 0, .int 0])), (ma 1, .inl (kc 0, 2880, .inl at0))]) hP hD [0, 1] [] rfl rfl (by decide) (by decide) hk1 hFc hP1 hD1
  have hP : va_P D vwCl [(ma 0, .inr (11, [.ref (ma 1), .ref (ma 2), .int 0, .long 0, .long 1, .ref (ma 3), .ref (ma 4), .ref (ma 5), .ref (ma 6), .ref (ma 7), .int 0, .int 0, .int 0, .int 0, .int 0, .int 0, .int (-1), .int (-1), .int 0, .int 0, .int 0, .ref (ma 8), .int 0, .int 0, .int (-1), .int 0, .int 0, .int 0, .ref (ma 9), .int 0, .int 0, .ref (ma 10), .ref (ma 11), .ref (ma 12), .int 0, .int 0])), (ma 1, .inl (kc 0, 2880, .inl at0))] H := hP
  have hD : va_D A [(ma 0, .inr (11, [.ref (ma 1), .ref (ma 2), .int 0, .long 0, .long 1, .ref (ma 3), .ref (ma 4), .ref (ma 5), .ref (ma 6), .ref (ma 7), .int 0, .int 0, .int 0, .int 0, .int 0, .int 0, .int (-1), .int (-1), .int 0, .int 0, .int 0, .ref (ma 8), .int 0, .int 0, .int (-1), .int 0, .int 0, .int 0, .ref (ma 9), .int 0, .int 0, .ref (ma 10), .ref (ma 11), .ref (ma 12), .int 0, .int 0])), (ma 1, .inl (kc 0, 2880, .inl at0))] := hD
  subst hw
  refine lv_if_eq (tgt := 17) hx hb dX12_share_5 (by decide) (fun _ => ?_) (fun h => absurd (by decide) h)
  refine lv_aload_n hx hb dX12_share_17 rfl (lv_at hl 0 rfl) ?_
  refine lv_iconst (v := 1) hx hb dX12_share_18 (by decide) ?_
  have hPc := hP.sub (ws' := [(ma 0, .inr (11, [.ref (ma 1), .ref (ma 2), .int 0, .long 0, .long 1, .ref (ma 3), .ref (ma 4), .ref (ma 5), .ref (ma 6), .ref (ma 7), .int 0, .int 0, .int 0, .int 0, .int 0, .int 0, .int (-1), .int (-1), .int 0, .int 0, .int 0, .ref (ma 8), .int 0, .int 0, .int (-1), .int 0, .int 0, .int 0, .ref (ma 9), .int 0, .int 0, .ref (ma 10), .ref (ma 11), .ref (ma 12), .int 0, .int 0]))]) [0] rfl
  have hDc := hD.sub (ws' := [(ma 0, .inr (11, [.ref (ma 1), .ref (ma 2), .int 0, .long 0, .long 1, .ref (ma 3), .ref (ma 4), .ref (ma 5), .ref (ma 6), .ref (ma 7), .int 0, .int 0, .int 0, .int 0, .int 0, .int 0, .int (-1), .int (-1), .int 0, .int 0, .int 0, .ref (ma 8), .int 0, .int 0, .int (-1), .int 0, .int 0, .int 0, .ref (ma 9), .int 0, .int 0, .ref (ma 10), .ref (ma 11), .ref (ma 12), .int 0, .int 0]))]) [0] (by decide) rfl
  have hFc := va_free (wc := [(ma 0, .inr (11, [.ref (ma 1), .ref (ma 2), .int 0, .long 0, .long 1, .ref (ma 3), .ref (ma 4), .ref (ma 5), .ref (ma 6), .ref (ma 7), .int 0, .int 0, .int 0, .int 0, .int 0, .int 0, .int (-1), .int (-1), .int 0, .int 0, .int 0, .ref (ma 8), .int 0, .int 0, .int (-1), .int 0, .int 0, .int 0, .ref (ma 9), .int 0, .int 0, .ref (ma 10), .ref (ma 11), .ref (ma 12), .int 0, .int 0]))]) hD hS hA [0] rfl
  refine va_calli (va_runV (As := [.int 1]) (rest := []) ⟨hx, hb, hml, hown, hts⟩ (m_refuse l D kc H.size ma 0 0 1 0 0 0 0 0 0 (-1) (-1) 0 0 0 0 0 (-1) 0 0 0 0 0 0 0 1) (cwV 1 hts gq_share_72_m_refuse rfl rfl rfl (by decide +kernel) ⟨Nat.le_of_ble_eq_true rfl, Nat.le_of_ble_eq_true rfl⟩) (preV_ok hPc hDc hE (ci := 11) (q0 := 0) rfl rfl) rfl rfl hl.1 rfl (lv_room (Nat.le_of_ble_eq_true rfl)) dX12_share_19 ⟨Nat.le_of_ble_eq_true rfl, Nat.le_of_ble_eq_true rfl⟩) hS (fun q _ h => hFc q h) hFc (fun r_19 u9 t9 H locs ht hvm hw hB hz1 hk1 hS => ?_)
  obtain ⟨hP1, hD1⟩ := hB
  rw [ht] at hP1
  obtain ⟨hP, hD⟩ := va_join (wr := [(ma 1, .inl (kc 0, 2880, .inl at0))]) (w1 := [(ma 0, .inr (11, [.ref (ma 1), .ref (ma 2), .int 1, .long 0, .long 1, .ref (ma 3), .ref (ma 4), .ref (ma 5), .ref (ma 6), .ref (ma 7), .int 0, .int 0, .int 0, .int 0, .int 0, .int 0, .int (-1), .int (-1), .int 0, .int 0, .int 0, .ref (ma 8), .int 0, .int 0, .int (-1), .int 0, .int 0, .int 0, .ref (ma 9), .int 0, .int 0, .ref (ma 10), .ref (ma 11), .ref (ma 12), .int 0, .int 0]))]) hP hD [0] [1] rfl rfl (by decide) (by decide) hk1 hFc hP1 hD1
  have hP : va_P D vwCl [(ma 1, .inl (kc 0, 2880, .inl at0)), (ma 0, .inr (11, [.ref (ma 1), .ref (ma 2), .int 1, .long 0, .long 1, .ref (ma 3), .ref (ma 4), .ref (ma 5), .ref (ma 6), .ref (ma 7), .int 0, .int 0, .int 0, .int 0, .int 0, .int 0, .int (-1), .int (-1), .int 0, .int 0, .int 0, .ref (ma 8), .int 0, .int 0, .int (-1), .int 0, .int 0, .int 0, .ref (ma 9), .int 0, .int 0, .ref (ma 10), .ref (ma 11), .ref (ma 12), .int 0, .int 0]))] H := hP
  have hD : va_D A [(ma 1, .inl (kc 0, 2880, .inl at0)), (ma 0, .inr (11, [.ref (ma 1), .ref (ma 2), .int 1, .long 0, .long 1, .ref (ma 3), .ref (ma 4), .ref (ma 5), .ref (ma 6), .ref (ma 7), .int 0, .int 0, .int 0, .int 0, .int 0, .int 0, .int (-1), .int (-1), .int 0, .int 0, .int 0, .ref (ma 8), .int 0, .int 0, .int (-1), .int 0, .int 0, .int 0, .ref (ma 9), .int 0, .int 0, .ref (ma 10), .ref (ma 11), .ref (ma 12), .int 0, .int 0]))] := hD
  subst hw
  exact W.iret (v := (-1)) hx hb hr (fun t9 ht hW => ⟨⟨(-1), (), rfl, rfl, trivial⟩, hS.F ht⟩) hS.2.2 dX12_share_22
theorem dX12_whose_0 : decode cX12_whose 0 = .ok (.iload_n 2, 1) := by decide +kernel
theorem dX12_whose_1 : decode cX12_whose 1 = .ok (.ifCond .ge 7, 3) := by decide +kernel
theorem dX12_whose_8 : decode cX12_whose 8 = .ok (.aload_n 0, 1) := by decide +kernel
theorem dX12_whose_9 : decode cX12_whose 9 = .ok (.iload_n 1, 1) := by decide +kernel
theorem dX12_whose_10 : decode cX12_whose 10 = .ok (.invokevirtual 263, 3) := by decide +kernel
theorem dX12_whose_13 : decode cX12_whose 13 = .ok (.istore_n 3, 1) := by decide +kernel
theorem dX12_whose_14 : decode cX12_whose 14 = .ok (.iload_n 3, 1) := by decide +kernel
theorem dX12_whose_15 : decode cX12_whose 15 = .ok (.ifCond .le 9, 3) := by decide +kernel
theorem dX12_whose_18 : decode cX12_whose 18 = .ok (.aload_n 0, 1) := by decide +kernel
theorem dX12_whose_19 : decode cX12_whose 19 = .ok (.iload_n 3, 1) := by decide +kernel
theorem dX12_whose_20 : decode cX12_whose 20 = .ok (.invokevirtual 72, 3) := by decide +kernel
theorem dX12_whose_23 : decode cX12_whose 23 = .ok (.ireturn, 1) := by decide +kernel
theorem dX12_whose_4 : decode cX12_whose 4 = .ok (.iconst 1, 1) := by decide +kernel
theorem dX12_whose_5 : decode cX12_whose 5 = .ok (.goto 8, 3) := by decide +kernel
def vdq_whose : List Cond := [.code yX12_whose cX12_whose 6 (some .int), .methodLink RX12 263 yX12_wrongStep, .code yX12_wrongStep cX12_wrongStep 2 (some .int), .methodLink RX12 251 yX12_isHouse, .code yX12_isHouse cX12_isHouse 2 (some .boolean), .fieldLink RX12 7 "SaltStreetModel" "at" "[I", .instanceMethod yX12_isHouse, .selects RX12 yX12_isHouse yX12_isHouse, .initialized RX12, .instanceMethod yX12_wrongStep, .selects RX12 yX12_wrongStep yX12_wrongStep, .methodLink RX12 72 yX12_refuse, .code yX12_refuse cX12_refuse 2 (some .int), .fieldLink RX12 66 "SaltStreetModel" "status" "I", .instanceMethod yX12_refuse, .selects RX12 yX12_refuse yX12_refuse]
def vq_whose : List Cond := vdq_whose ++ (wsX120 ++ ([] : List Cond))
theorem iq_whose_X12 : ∀ w ∈ wsX120, w ∈ vq_whose := fun _ h => List.mem_append_right _ (List.mem_append_left _ h)
set_option maxRecDepth 20000 in
theorem gq_whose_263_m_wrongStep : GoodIn vq_whose (wsV RX12 263 RX12 yX12_wrongStep vm_wrongStep) := (goodIn_app (goodIn_r _ [1, 9, 10, 8] rfl (by decide +kernel)) (goodIn_app (goodIn_r vdm_wrongStep [2, 3, 4, 5, 6, 7, 8] rfl (by decide +kernel)) (goodIn_app (goodIn_sub iq_whose_X12 gdX12) goodIn_nil)))
set_option maxRecDepth 20000 in
theorem gq_whose_72_m_refuse : GoodIn vq_whose (wsV RX12 72 RX12 yX12_refuse vm_refuse) := (goodIn_app (goodIn_r _ [11, 14, 15, 8] rfl (by decide +kernel)) (goodIn_app (goodIn_r vdm_refuse [12, 13] rfl (by decide +kernel)) (goodIn_app (goodIn_sub iq_whose_X12 gdX12) goodIn_nil)))
set_option maxHeartbeats 4000000 in
set_option maxRecDepth 100000 in
theorem q_whose (l : Launch) (D : va_G) (kc : Nat → ClassId) (sz : Nat) (ma : Nat → Nat) (a0 : Int32) (a1 : Int32) : Met l yX12_whose vq_whose ({ frames := 2, cells := 0, slots := 0, locals := 42 }) (va_Pc [.ref (ma 0), .int a0, .int a1] (wPre D kc [(ma 0, .inr (11, [.ref (ma 1), .ref (ma 2), .int 0, .long 0, .long 1, .ref (ma 3), .ref (ma 4), .ref (ma 5), .ref (ma 6), .ref (ma 7), .int 0, .int 0, .int 0, .int 0, .int 0, .int 0, .int (-1), .int (-1), .int 0, .int 0, .int 0, .ref (ma 8), .int 0, .int 0, .int (-1), .int 0, .int 0, .int 0, .ref (ma 9), .int 0, .int 0, .ref (ma 10), .ref (ma 11), .ref (ma 12), .int 0, .int 0])), (ma 1, .inl (kc 0, 2880, .inl at0))] sz)) (va_Qi (fun (r : Int32) (_ : Unit) => r = (-1)) wAny (va_A [(ma 0, .inr (11, [.ref (ma 1), .ref (ma 2), .int 0, .long 0, .long 1, .ref (ma 3), .ref (ma 4), .ref (ma 5), .ref (ma 6), .ref (ma 7), .int 0, .int 0, .int 0, .int 0, .int 0, .int 0, .int (-1), .int (-1), .int 0, .int 0, .int 0, .ref (ma 8), .int 0, .int 0, .int (-1), .int 0, .int 0, .int 0, .ref (ma 9), .int 0, .int 0, .ref (ma 10), .ref (ma 11), .ref (ma 12), .int 0, .int 0])), (ma 1, .inl (kc 0, 2880, .inl at0))] sz)) 0 0 (va_A [(ma 0, .inr (11, [.ref (ma 1), .ref (ma 2), .int 0, .long 0, .long 1, .ref (ma 3), .ref (ma 4), .ref (ma 5), .ref (ma 6), .ref (ma 7), .int 0, .int 0, .int 0, .int 0, .int 0, .int 0, .int (-1), .int (-1), .int 0, .int 0, .int 0, .ref (ma 8), .int 0, .int 0, .int (-1), .int 0, .int 0, .int 0, .ref (ma 9), .int 0, .int 0, .ref (ma 10), .ref (ma 11), .ref (ma 12), .int 0, .int 0])), (ma 1, .inl (kc 0, 2880, .inl at0))] sz) := by
  refine Met.ofW (cc := cX12_whose) (maxL := 6) (ret := (some .int)) (by decide) rfl ?_
  intro p e s m args below meth c s₁ B hml hv
  obtain ⟨rfl, hsz, hP, hE, hD0⟩ := hv
  have hx := B.exec
  have hb := B.bytes
  have hr := B.returns
  have hts := atoms_spec (ws := vq_whose) B.pre
  have hown : s.vm.findClass RX12 = some m.cls := findClass_of_methodNamed B.named
  have hlocks := B.notSynchronized
  subst hsz
  have hD := hD0.self (sz := s.heap.size)
  generalize hAe : va_A [(ma 0, .inr (11, [.ref (ma 1), .ref (ma 2), .int 0, .long 0, .long 1, .ref (ma 3), .ref (ma 4), .ref (ma 5), .ref (ma 6), .ref (ma 7), .int 0, .int 0, .int 0, .int 0, .int 0, .int 0, .int (-1), .int (-1), .int 0, .int 0, .int 0, .ref (ma 8), .int 0, .int 0, .int (-1), .int 0, .int 0, .int 0, .ref (ma 9), .int 0, .int 0, .ref (ma 10), .ref (ma 11), .ref (ma 12), .int 0, .int 0])), (ma 1, .inl (kc 0, 2880, .inl at0))] s.heap.size = A at hD ⊢
  have hA : ∀ q : Nat, s.heap.size ≤ q → A q := fun q h => by rw [← hAe]; exact Or.inr h
  have hS : va_S A s.heap s.heap [] := va_S.rf
  have hK := hE.1
  have hP : va_P D vwCl [(ma 0, .inr (11, [.ref (ma 1), .ref (ma 2), .int 0, .long 0, .long 1, .ref (ma 3), .ref (ma 4), .ref (ma 5), .ref (ma 6), .ref (ma 7), .int 0, .int 0, .int 0, .int 0, .int 0, .int 0, .int (-1), .int (-1), .int 0, .int 0, .int 0, .ref (ma 8), .int 0, .int 0, .int (-1), .int 0, .int 0, .int 0, .ref (ma 9), .int 0, .int 0, .ref (ma 10), .ref (ma 11), .ref (ma 12), .int 0, .int 0])), (ma 1, .inl (kc 0, 2880, .inl at0))] s.heap := hP
  have hl := lv_entry ([.ref (ma 0), .int a0, .int a1]) (n := 6) (Nat.le_of_ble_eq_true rfl)
  rw [lg_entry_eq]
  generalize (lg_sl ([.ref (ma 0), .int a0, .int a1]) ++ List.replicate (6 - (lg_sl ([.ref (ma 0), .int a0, .int a1])).length) Slot.unset).toArray = ls at hl ⊢
  have hl : lv_has ls 6 [(0, .ref (ma 0)), (1, .int a0), (2, .int a1)] := hl
  refine lv_iload_n hx hb dX12_whose_0 rfl (lv_at hl 2 rfl) ?_
  refine lv_if_ge (tgt := 8) hx hb dX12_whose_1 (by decide) (fun c_1 => ?_) (fun c_1 => ?_)
  · refine lv_aload_n hx hb dX12_whose_8 rfl (lv_at hl 0 rfl) ?_
    refine lv_iload_n hx hb dX12_whose_9 rfl (lv_at hl 1 rfl) ?_
    have hPc := hP.sub (ws' := [(ma 0, .inr (11, [.ref (ma 1), .ref (ma 2), .int 0, .long 0, .long 1, .ref (ma 3), .ref (ma 4), .ref (ma 5), .ref (ma 6), .ref (ma 7), .int 0, .int 0, .int 0, .int 0, .int 0, .int 0, .int (-1), .int (-1), .int 0, .int 0, .int 0, .ref (ma 8), .int 0, .int 0, .int (-1), .int 0, .int 0, .int 0, .ref (ma 9), .int 0, .int 0, .ref (ma 10), .ref (ma 11), .ref (ma 12), .int 0, .int 0])), (ma 1, .inl (kc 0, 2880, .inl at0))]) [0, 1] rfl
    have hDc := hD.sub (ws' := [(ma 0, .inr (11, [.ref (ma 1), .ref (ma 2), .int 0, .long 0, .long 1, .ref (ma 3), .ref (ma 4), .ref (ma 5), .ref (ma 6), .ref (ma 7), .int 0, .int 0, .int 0, .int 0, .int 0, .int 0, .int (-1), .int (-1), .int 0, .int 0, .int 0, .ref (ma 8), .int 0, .int 0, .int (-1), .int 0, .int 0, .int 0, .ref (ma 9), .int 0, .int 0, .ref (ma 10), .ref (ma 11), .ref (ma 12), .int 0, .int 0])), (ma 1, .inl (kc 0, 2880, .inl at0))]) [0, 1] (by decide) rfl
    have hFc := va_free (wc := [(ma 0, .inr (11, [.ref (ma 1), .ref (ma 2), .int 0, .long 0, .long 1, .ref (ma 3), .ref (ma 4), .ref (ma 5), .ref (ma 6), .ref (ma 7), .int 0, .int 0, .int 0, .int 0, .int 0, .int 0, .int (-1), .int (-1), .int 0, .int 0, .int 0, .ref (ma 8), .int 0, .int 0, .int (-1), .int 0, .int 0, .int 0, .ref (ma 9), .int 0, .int 0, .ref (ma 10), .ref (ma 11), .ref (ma 12), .int 0, .int 0])), (ma 1, .inl (kc 0, 2880, .inl at0))]) hD hS hA [0, 1] rfl
    refine va_calli (va_runV (As := [.int a0]) (rest := []) ⟨hx, hb, hml, hown, hts⟩ (m_wrongStep l D kc s.heap.size ma a0) (cwV 1 hts gq_whose_263_m_wrongStep rfl rfl rfl (by decide +kernel) ⟨Nat.le_of_ble_eq_true rfl, Nat.le_of_ble_eq_true rfl⟩) (preV_ok hPc hDc hE (ci := 11) (q0 := 0) rfl rfl) rfl rfl hl.1 rfl (lv_room (Nat.le_of_ble_eq_true rfl)) dX12_whose_10 ⟨Nat.le_of_ble_eq_true rfl, Nat.le_of_ble_eq_true rfl⟩) hS (fun q _ h => hFc q h) hFc (fun r_10_1 u9 t9 H locs ht hvm hw hB hz1 hk1 hS => ?_)
    obtain ⟨hP1, hD1⟩ := hB
    rw [ht] at hP1
    obtain ⟨hP, hD⟩ := va_join (wr := []) (w1 := [(ma 0, .inr (11, [.ref (ma 1), .ref (ma 2), .int 0, .long 0, .long 1, .ref (ma 3), .ref (ma 4), .ref (ma 5), .ref (ma 6), .ref (ma 7), .int 0, .int 0, .int 0, .int 0, .int 0, .int 0, .int (-1), .int (-1), .int 0, .int 0, .int 0, .ref (ma 8), .int 0, .int 0, .int (-1), .int 0, .int 0, .int 0, .ref (ma 9), .int 0, .int 0, .ref (ma 10), .ref (ma 11), .ref (ma 12), .int 0, .int 0])), (ma 1, .inl (kc 0, 2880, .inl at0))]) hP hD [0, 1] [] rfl rfl (by decide) (by decide) hk1 hFc hP1 hD1
    have hP : va_P D vwCl [(ma 0, .inr (11, [.ref (ma 1), .ref (ma 2), .int 0, .long 0, .long 1, .ref (ma 3), .ref (ma 4), .ref (ma 5), .ref (ma 6), .ref (ma 7), .int 0, .int 0, .int 0, .int 0, .int 0, .int 0, .int (-1), .int (-1), .int 0, .int 0, .int 0, .ref (ma 8), .int 0, .int 0, .int (-1), .int 0, .int 0, .int 0, .ref (ma 9), .int 0, .int 0, .ref (ma 10), .ref (ma 11), .ref (ma 12), .int 0, .int 0])), (ma 1, .inl (kc 0, 2880, .inl at0))] H := hP
    have hD : va_D A [(ma 0, .inr (11, [.ref (ma 1), .ref (ma 2), .int 0, .long 0, .long 1, .ref (ma 3), .ref (ma 4), .ref (ma 5), .ref (ma 6), .ref (ma 7), .int 0, .int 0, .int 0, .int 0, .int 0, .int 0, .int (-1), .int (-1), .int 0, .int 0, .int 0, .ref (ma 8), .int 0, .int 0, .int (-1), .int 0, .int 0, .int 0, .ref (ma 9), .int 0, .int 0, .ref (ma 10), .ref (ma 11), .ref (ma 12), .int 0, .int 0])), (ma 1, .inl (kc 0, 2880, .inl at0))] := hD
    subst hw
    refine lv_istore_n (lv' := [(3, .int 1), (0, .ref (ma 0)), (1, .int a0), (2, .int a1)]) hx hb dX12_whose_13 rfl hl (by decide) rfl (fun ls hl => ?_)
    refine lv_iload_n hx hb dX12_whose_14 rfl (lv_at hl 0 rfl) ?_
    refine lv_if_le (tgt := 24) hx hb dX12_whose_15 (by decide) (fun h => absurd h (by decide)) (fun _ => ?_)
    refine lv_aload_n hx hb dX12_whose_18 rfl (lv_at hl 1 rfl) ?_
    refine lv_iload_n hx hb dX12_whose_19 rfl (lv_at hl 0 rfl) ?_
    have hPc := hP.sub (ws' := [(ma 0, .inr (11, [.ref (ma 1), .ref (ma 2), .int 0, .long 0, .long 1, .ref (ma 3), .ref (ma 4), .ref (ma 5), .ref (ma 6), .ref (ma 7), .int 0, .int 0, .int 0, .int 0, .int 0, .int 0, .int (-1), .int (-1), .int 0, .int 0, .int 0, .ref (ma 8), .int 0, .int 0, .int (-1), .int 0, .int 0, .int 0, .ref (ma 9), .int 0, .int 0, .ref (ma 10), .ref (ma 11), .ref (ma 12), .int 0, .int 0]))]) [0] rfl
    have hDc := hD.sub (ws' := [(ma 0, .inr (11, [.ref (ma 1), .ref (ma 2), .int 0, .long 0, .long 1, .ref (ma 3), .ref (ma 4), .ref (ma 5), .ref (ma 6), .ref (ma 7), .int 0, .int 0, .int 0, .int 0, .int 0, .int 0, .int (-1), .int (-1), .int 0, .int 0, .int 0, .ref (ma 8), .int 0, .int 0, .int (-1), .int 0, .int 0, .int 0, .ref (ma 9), .int 0, .int 0, .ref (ma 10), .ref (ma 11), .ref (ma 12), .int 0, .int 0]))]) [0] (by decide) rfl
    have hFc := va_free (wc := [(ma 0, .inr (11, [.ref (ma 1), .ref (ma 2), .int 0, .long 0, .long 1, .ref (ma 3), .ref (ma 4), .ref (ma 5), .ref (ma 6), .ref (ma 7), .int 0, .int 0, .int 0, .int 0, .int 0, .int 0, .int (-1), .int (-1), .int 0, .int 0, .int 0, .ref (ma 8), .int 0, .int 0, .int (-1), .int 0, .int 0, .int 0, .ref (ma 9), .int 0, .int 0, .ref (ma 10), .ref (ma 11), .ref (ma 12), .int 0, .int 0]))]) hD hS hA [0] rfl
    refine va_calli (va_runV (As := [.int 1]) (rest := []) ⟨hx, hb, hml, hown, hts⟩ (m_refuse l D kc H.size ma 0 0 1 0 0 0 0 0 0 (-1) (-1) 0 0 0 0 0 (-1) 0 0 0 0 0 0 0 1) (cwV 1 hts gq_whose_72_m_refuse rfl rfl rfl (by decide +kernel) ⟨Nat.le_of_ble_eq_true rfl, Nat.le_of_ble_eq_true rfl⟩) (preV_ok hPc hDc hE (ci := 11) (q0 := 0) rfl rfl) rfl rfl hl.1 rfl (lv_room (Nat.le_of_ble_eq_true rfl)) dX12_whose_20 ⟨Nat.le_of_ble_eq_true rfl, Nat.le_of_ble_eq_true rfl⟩) hS (fun q _ h => hFc q h) hFc (fun r_20_1 u9 t9 H locs ht hvm hw hB hz1 hk1 hS => ?_)
    obtain ⟨hP1, hD1⟩ := hB
    rw [ht] at hP1
    obtain ⟨hP, hD⟩ := va_join (wr := [(ma 1, .inl (kc 0, 2880, .inl at0))]) (w1 := [(ma 0, .inr (11, [.ref (ma 1), .ref (ma 2), .int 1, .long 0, .long 1, .ref (ma 3), .ref (ma 4), .ref (ma 5), .ref (ma 6), .ref (ma 7), .int 0, .int 0, .int 0, .int 0, .int 0, .int 0, .int (-1), .int (-1), .int 0, .int 0, .int 0, .ref (ma 8), .int 0, .int 0, .int (-1), .int 0, .int 0, .int 0, .ref (ma 9), .int 0, .int 0, .ref (ma 10), .ref (ma 11), .ref (ma 12), .int 0, .int 0]))]) hP hD [0] [1] rfl rfl (by decide) (by decide) hk1 hFc hP1 hD1
    have hP : va_P D vwCl [(ma 1, .inl (kc 0, 2880, .inl at0)), (ma 0, .inr (11, [.ref (ma 1), .ref (ma 2), .int 1, .long 0, .long 1, .ref (ma 3), .ref (ma 4), .ref (ma 5), .ref (ma 6), .ref (ma 7), .int 0, .int 0, .int 0, .int 0, .int 0, .int 0, .int (-1), .int (-1), .int 0, .int 0, .int 0, .ref (ma 8), .int 0, .int 0, .int (-1), .int 0, .int 0, .int 0, .ref (ma 9), .int 0, .int 0, .ref (ma 10), .ref (ma 11), .ref (ma 12), .int 0, .int 0]))] H := hP
    have hD : va_D A [(ma 1, .inl (kc 0, 2880, .inl at0)), (ma 0, .inr (11, [.ref (ma 1), .ref (ma 2), .int 1, .long 0, .long 1, .ref (ma 3), .ref (ma 4), .ref (ma 5), .ref (ma 6), .ref (ma 7), .int 0, .int 0, .int 0, .int 0, .int 0, .int 0, .int (-1), .int (-1), .int 0, .int 0, .int 0, .ref (ma 8), .int 0, .int 0, .int (-1), .int 0, .int 0, .int 0, .ref (ma 9), .int 0, .int 0, .ref (ma 10), .ref (ma 11), .ref (ma 12), .int 0, .int 0]))] := hD
    subst hw
    exact W.iret (v := (-1)) hx hb hr (fun t9 ht hW => ⟨⟨(-1), (), rfl, rfl, trivial⟩, hS.F ht⟩) hS.2.2 dX12_whose_23
  · refine lv_iconst (v := 1) hx hb dX12_whose_4 (by decide) ?_
    refine lv_goto (tgt := 13) hx hb dX12_whose_5 (by decide) ?_
    refine lv_istore_n (lv' := [(3, .int 1), (0, .ref (ma 0)), (1, .int a0), (2, .int a1)]) hx hb dX12_whose_13 rfl hl (by decide) rfl (fun ls hl => ?_)
    refine lv_iload_n hx hb dX12_whose_14 rfl (lv_at hl 0 rfl) ?_
    refine lv_if_le (tgt := 24) hx hb dX12_whose_15 (by decide) (fun h => absurd h (by decide)) (fun _ => ?_)
    refine lv_aload_n hx hb dX12_whose_18 rfl (lv_at hl 1 rfl) ?_
    refine lv_iload_n hx hb dX12_whose_19 rfl (lv_at hl 0 rfl) ?_
    have hPc := hP.sub (ws' := [(ma 0, .inr (11, [.ref (ma 1), .ref (ma 2), .int 0, .long 0, .long 1, .ref (ma 3), .ref (ma 4), .ref (ma 5), .ref (ma 6), .ref (ma 7), .int 0, .int 0, .int 0, .int 0, .int 0, .int 0, .int (-1), .int (-1), .int 0, .int 0, .int 0, .ref (ma 8), .int 0, .int 0, .int (-1), .int 0, .int 0, .int 0, .ref (ma 9), .int 0, .int 0, .ref (ma 10), .ref (ma 11), .ref (ma 12), .int 0, .int 0]))]) [0] rfl
    have hDc := hD.sub (ws' := [(ma 0, .inr (11, [.ref (ma 1), .ref (ma 2), .int 0, .long 0, .long 1, .ref (ma 3), .ref (ma 4), .ref (ma 5), .ref (ma 6), .ref (ma 7), .int 0, .int 0, .int 0, .int 0, .int 0, .int 0, .int (-1), .int (-1), .int 0, .int 0, .int 0, .ref (ma 8), .int 0, .int 0, .int (-1), .int 0, .int 0, .int 0, .ref (ma 9), .int 0, .int 0, .ref (ma 10), .ref (ma 11), .ref (ma 12), .int 0, .int 0]))]) [0] (by decide) rfl
    have hFc := va_free (wc := [(ma 0, .inr (11, [.ref (ma 1), .ref (ma 2), .int 0, .long 0, .long 1, .ref (ma 3), .ref (ma 4), .ref (ma 5), .ref (ma 6), .ref (ma 7), .int 0, .int 0, .int 0, .int 0, .int 0, .int 0, .int (-1), .int (-1), .int 0, .int 0, .int 0, .ref (ma 8), .int 0, .int 0, .int (-1), .int 0, .int 0, .int 0, .ref (ma 9), .int 0, .int 0, .ref (ma 10), .ref (ma 11), .ref (ma 12), .int 0, .int 0]))]) hD hS hA [0] rfl
    refine va_calli (va_runV (As := [.int 1]) (rest := []) ⟨hx, hb, hml, hown, hts⟩ (m_refuse l D kc s.heap.size ma 0 0 1 0 0 0 0 0 0 (-1) (-1) 0 0 0 0 0 (-1) 0 0 0 0 0 0 0 1) (cwV 1 hts gq_whose_72_m_refuse rfl rfl rfl (by decide +kernel) ⟨Nat.le_of_ble_eq_true rfl, Nat.le_of_ble_eq_true rfl⟩) (preV_ok hPc hDc hE (ci := 11) (q0 := 0) rfl rfl) rfl rfl hl.1 rfl (lv_room (Nat.le_of_ble_eq_true rfl)) dX12_whose_20 ⟨Nat.le_of_ble_eq_true rfl, Nat.le_of_ble_eq_true rfl⟩) hS (fun q _ h => hFc q h) hFc (fun r_20_1 u9 t9 H locs ht hvm hw hB hz1 hk1 hS => ?_)
    obtain ⟨hP1, hD1⟩ := hB
    rw [ht] at hP1
    obtain ⟨hP, hD⟩ := va_join (wr := [(ma 1, .inl (kc 0, 2880, .inl at0))]) (w1 := [(ma 0, .inr (11, [.ref (ma 1), .ref (ma 2), .int 1, .long 0, .long 1, .ref (ma 3), .ref (ma 4), .ref (ma 5), .ref (ma 6), .ref (ma 7), .int 0, .int 0, .int 0, .int 0, .int 0, .int 0, .int (-1), .int (-1), .int 0, .int 0, .int 0, .ref (ma 8), .int 0, .int 0, .int (-1), .int 0, .int 0, .int 0, .ref (ma 9), .int 0, .int 0, .ref (ma 10), .ref (ma 11), .ref (ma 12), .int 0, .int 0]))]) hP hD [0] [1] rfl rfl (by decide) (by decide) hk1 hFc hP1 hD1
    have hP : va_P D vwCl [(ma 1, .inl (kc 0, 2880, .inl at0)), (ma 0, .inr (11, [.ref (ma 1), .ref (ma 2), .int 1, .long 0, .long 1, .ref (ma 3), .ref (ma 4), .ref (ma 5), .ref (ma 6), .ref (ma 7), .int 0, .int 0, .int 0, .int 0, .int 0, .int 0, .int (-1), .int (-1), .int 0, .int 0, .int 0, .ref (ma 8), .int 0, .int 0, .int (-1), .int 0, .int 0, .int 0, .ref (ma 9), .int 0, .int 0, .ref (ma 10), .ref (ma 11), .ref (ma 12), .int 0, .int 0]))] H := hP
    have hD : va_D A [(ma 1, .inl (kc 0, 2880, .inl at0)), (ma 0, .inr (11, [.ref (ma 1), .ref (ma 2), .int 1, .long 0, .long 1, .ref (ma 3), .ref (ma 4), .ref (ma 5), .ref (ma 6), .ref (ma 7), .int 0, .int 0, .int 0, .int 0, .int 0, .int 0, .int (-1), .int (-1), .int 0, .int 0, .int 0, .ref (ma 8), .int 0, .int 0, .int (-1), .int 0, .int 0, .int 0, .ref (ma 9), .int 0, .int 0, .ref (ma 10), .ref (ma 11), .ref (ma 12), .int 0, .int 0]))] := hD
    subst hw
    exact W.iret (v := (-1)) hx hb hr (fun t9 ht hW => ⟨⟨(-1), (), rfl, rfl, trivial⟩, hS.F ht⟩) hS.2.2 dX12_whose_23
theorem dX12_nobodys_0 : decode cX12_nobodys 0 = .ok (.aload_n 0, 1) := by decide +kernel
theorem dX12_nobodys_1 : decode cX12_nobodys 1 = .ok (.iload_n 1, 1) := by decide +kernel
theorem dX12_nobodys_2 : decode cX12_nobodys 2 = .ok (.invokevirtual 263, 3) := by decide +kernel
theorem dX12_nobodys_5 : decode cX12_nobodys 5 = .ok (.istore_n 2, 1) := by decide +kernel
theorem dX12_nobodys_6 : decode cX12_nobodys 6 = .ok (.iload_n 2, 1) := by decide +kernel
theorem dX12_nobodys_7 : decode cX12_nobodys 7 = .ok (.ifCond .le 9, 3) := by decide +kernel
theorem dX12_nobodys_10 : decode cX12_nobodys 10 = .ok (.aload_n 0, 1) := by decide +kernel
theorem dX12_nobodys_11 : decode cX12_nobodys 11 = .ok (.iload_n 2, 1) := by decide +kernel
theorem dX12_nobodys_12 : decode cX12_nobodys 12 = .ok (.invokevirtual 72, 3) := by decide +kernel
theorem dX12_nobodys_15 : decode cX12_nobodys 15 = .ok (.ireturn, 1) := by decide +kernel
def vdq_nobodys : List Cond := [.code yX12_nobodys cX12_nobodys 5 (some .int), .methodLink RX12 263 yX12_wrongStep, .code yX12_wrongStep cX12_wrongStep 2 (some .int), .methodLink RX12 251 yX12_isHouse, .code yX12_isHouse cX12_isHouse 2 (some .boolean), .fieldLink RX12 7 "SaltStreetModel" "at" "[I", .instanceMethod yX12_isHouse, .selects RX12 yX12_isHouse yX12_isHouse, .initialized RX12, .instanceMethod yX12_wrongStep, .selects RX12 yX12_wrongStep yX12_wrongStep, .methodLink RX12 72 yX12_refuse, .code yX12_refuse cX12_refuse 2 (some .int), .fieldLink RX12 66 "SaltStreetModel" "status" "I", .instanceMethod yX12_refuse, .selects RX12 yX12_refuse yX12_refuse]
def vq_nobodys : List Cond := vdq_nobodys ++ (wsX120 ++ ([] : List Cond))
theorem iq_nobodys_X12 : ∀ w ∈ wsX120, w ∈ vq_nobodys := fun _ h => List.mem_append_right _ (List.mem_append_left _ h)
set_option maxRecDepth 20000 in
theorem gq_nobodys_263_m_wrongStep : GoodIn vq_nobodys (wsV RX12 263 RX12 yX12_wrongStep vm_wrongStep) := (goodIn_app (goodIn_r _ [1, 9, 10, 8] rfl (by decide +kernel)) (goodIn_app (goodIn_r vdm_wrongStep [2, 3, 4, 5, 6, 7, 8] rfl (by decide +kernel)) (goodIn_app (goodIn_sub iq_nobodys_X12 gdX12) goodIn_nil)))
set_option maxRecDepth 20000 in
theorem gq_nobodys_72_m_refuse : GoodIn vq_nobodys (wsV RX12 72 RX12 yX12_refuse vm_refuse) := (goodIn_app (goodIn_r _ [11, 14, 15, 8] rfl (by decide +kernel)) (goodIn_app (goodIn_r vdm_refuse [12, 13] rfl (by decide +kernel)) (goodIn_app (goodIn_sub iq_nobodys_X12 gdX12) goodIn_nil)))
set_option maxHeartbeats 4000000 in
set_option maxRecDepth 100000 in
theorem q_nobodys (l : Launch) (D : va_G) (kc : Nat → ClassId) (sz : Nat) (ma : Nat → Nat) (a0 : Int32) : Met l yX12_nobodys vq_nobodys ({ frames := 2, cells := 0, slots := 0, locals := 42 }) (va_Pc [.ref (ma 0), .int a0] (wPre D kc [(ma 0, .inr (11, [.ref (ma 1), .ref (ma 2), .int 0, .long 0, .long 1, .ref (ma 3), .ref (ma 4), .ref (ma 5), .ref (ma 6), .ref (ma 7), .int 0, .int 0, .int 0, .int 0, .int 0, .int 0, .int (-1), .int (-1), .int 0, .int 0, .int 0, .ref (ma 8), .int 0, .int 0, .int (-1), .int 0, .int 0, .int 0, .ref (ma 9), .int 0, .int 0, .ref (ma 10), .ref (ma 11), .ref (ma 12), .int 0, .int 0])), (ma 1, .inl (kc 0, 2880, .inl at0))] sz)) (va_Qi (fun (r : Int32) (_ : Unit) => r = (-1)) wAny (va_A [(ma 0, .inr (11, [.ref (ma 1), .ref (ma 2), .int 0, .long 0, .long 1, .ref (ma 3), .ref (ma 4), .ref (ma 5), .ref (ma 6), .ref (ma 7), .int 0, .int 0, .int 0, .int 0, .int 0, .int 0, .int (-1), .int (-1), .int 0, .int 0, .int 0, .ref (ma 8), .int 0, .int 0, .int (-1), .int 0, .int 0, .int 0, .ref (ma 9), .int 0, .int 0, .ref (ma 10), .ref (ma 11), .ref (ma 12), .int 0, .int 0])), (ma 1, .inl (kc 0, 2880, .inl at0))] sz)) 0 0 (va_A [(ma 0, .inr (11, [.ref (ma 1), .ref (ma 2), .int 0, .long 0, .long 1, .ref (ma 3), .ref (ma 4), .ref (ma 5), .ref (ma 6), .ref (ma 7), .int 0, .int 0, .int 0, .int 0, .int 0, .int 0, .int (-1), .int (-1), .int 0, .int 0, .int 0, .ref (ma 8), .int 0, .int 0, .int (-1), .int 0, .int 0, .int 0, .ref (ma 9), .int 0, .int 0, .ref (ma 10), .ref (ma 11), .ref (ma 12), .int 0, .int 0])), (ma 1, .inl (kc 0, 2880, .inl at0))] sz) := by
  refine Met.ofW (cc := cX12_nobodys) (maxL := 5) (ret := (some .int)) (by decide) rfl ?_
  intro p e s m args below meth c s₁ B hml hv
  obtain ⟨rfl, hsz, hP, hE, hD0⟩ := hv
  have hx := B.exec
  have hb := B.bytes
  have hr := B.returns
  have hts := atoms_spec (ws := vq_nobodys) B.pre
  have hown : s.vm.findClass RX12 = some m.cls := findClass_of_methodNamed B.named
  have hlocks := B.notSynchronized
  subst hsz
  have hD := hD0.self (sz := s.heap.size)
  generalize hAe : va_A [(ma 0, .inr (11, [.ref (ma 1), .ref (ma 2), .int 0, .long 0, .long 1, .ref (ma 3), .ref (ma 4), .ref (ma 5), .ref (ma 6), .ref (ma 7), .int 0, .int 0, .int 0, .int 0, .int 0, .int 0, .int (-1), .int (-1), .int 0, .int 0, .int 0, .ref (ma 8), .int 0, .int 0, .int (-1), .int 0, .int 0, .int 0, .ref (ma 9), .int 0, .int 0, .ref (ma 10), .ref (ma 11), .ref (ma 12), .int 0, .int 0])), (ma 1, .inl (kc 0, 2880, .inl at0))] s.heap.size = A at hD ⊢
  have hA : ∀ q : Nat, s.heap.size ≤ q → A q := fun q h => by rw [← hAe]; exact Or.inr h
  have hS : va_S A s.heap s.heap [] := va_S.rf
  have hK := hE.1
  have hP : va_P D vwCl [(ma 0, .inr (11, [.ref (ma 1), .ref (ma 2), .int 0, .long 0, .long 1, .ref (ma 3), .ref (ma 4), .ref (ma 5), .ref (ma 6), .ref (ma 7), .int 0, .int 0, .int 0, .int 0, .int 0, .int 0, .int (-1), .int (-1), .int 0, .int 0, .int 0, .ref (ma 8), .int 0, .int 0, .int (-1), .int 0, .int 0, .int 0, .ref (ma 9), .int 0, .int 0, .ref (ma 10), .ref (ma 11), .ref (ma 12), .int 0, .int 0])), (ma 1, .inl (kc 0, 2880, .inl at0))] s.heap := hP
  have hl := lv_entry ([.ref (ma 0), .int a0]) (n := 5) (Nat.le_of_ble_eq_true rfl)
  rw [lg_entry_eq]
  generalize (lg_sl ([.ref (ma 0), .int a0]) ++ List.replicate (5 - (lg_sl ([.ref (ma 0), .int a0])).length) Slot.unset).toArray = ls at hl ⊢
  have hl : lv_has ls 5 [(0, .ref (ma 0)), (1, .int a0)] := hl
  refine lv_aload_n hx hb dX12_nobodys_0 rfl (lv_at hl 0 rfl) ?_
  refine lv_iload_n hx hb dX12_nobodys_1 rfl (lv_at hl 1 rfl) ?_
  have hPc := hP.sub (ws' := [(ma 0, .inr (11, [.ref (ma 1), .ref (ma 2), .int 0, .long 0, .long 1, .ref (ma 3), .ref (ma 4), .ref (ma 5), .ref (ma 6), .ref (ma 7), .int 0, .int 0, .int 0, .int 0, .int 0, .int 0, .int (-1), .int (-1), .int 0, .int 0, .int 0, .ref (ma 8), .int 0, .int 0, .int (-1), .int 0, .int 0, .int 0, .ref (ma 9), .int 0, .int 0, .ref (ma 10), .ref (ma 11), .ref (ma 12), .int 0, .int 0])), (ma 1, .inl (kc 0, 2880, .inl at0))]) [0, 1] rfl
  have hDc := hD.sub (ws' := [(ma 0, .inr (11, [.ref (ma 1), .ref (ma 2), .int 0, .long 0, .long 1, .ref (ma 3), .ref (ma 4), .ref (ma 5), .ref (ma 6), .ref (ma 7), .int 0, .int 0, .int 0, .int 0, .int 0, .int 0, .int (-1), .int (-1), .int 0, .int 0, .int 0, .ref (ma 8), .int 0, .int 0, .int (-1), .int 0, .int 0, .int 0, .ref (ma 9), .int 0, .int 0, .ref (ma 10), .ref (ma 11), .ref (ma 12), .int 0, .int 0])), (ma 1, .inl (kc 0, 2880, .inl at0))]) [0, 1] (by decide) rfl
  have hFc := va_free (wc := [(ma 0, .inr (11, [.ref (ma 1), .ref (ma 2), .int 0, .long 0, .long 1, .ref (ma 3), .ref (ma 4), .ref (ma 5), .ref (ma 6), .ref (ma 7), .int 0, .int 0, .int 0, .int 0, .int 0, .int 0, .int (-1), .int (-1), .int 0, .int 0, .int 0, .ref (ma 8), .int 0, .int 0, .int (-1), .int 0, .int 0, .int 0, .ref (ma 9), .int 0, .int 0, .ref (ma 10), .ref (ma 11), .ref (ma 12), .int 0, .int 0])), (ma 1, .inl (kc 0, 2880, .inl at0))]) hD hS hA [0, 1] rfl
  refine va_calli (va_runV (As := [.int a0]) (rest := []) ⟨hx, hb, hml, hown, hts⟩ (m_wrongStep l D kc s.heap.size ma a0) (cwV 1 hts gq_nobodys_263_m_wrongStep rfl rfl rfl (by decide +kernel) ⟨Nat.le_of_ble_eq_true rfl, Nat.le_of_ble_eq_true rfl⟩) (preV_ok hPc hDc hE (ci := 11) (q0 := 0) rfl rfl) rfl rfl hl.1 rfl (lv_room (Nat.le_of_ble_eq_true rfl)) dX12_nobodys_2 ⟨Nat.le_of_ble_eq_true rfl, Nat.le_of_ble_eq_true rfl⟩) hS (fun q _ h => hFc q h) hFc (fun r_2 u9 t9 H locs ht hvm hw hB hz1 hk1 hS => ?_)
  obtain ⟨hP1, hD1⟩ := hB
  rw [ht] at hP1
  obtain ⟨hP, hD⟩ := va_join (wr := []) (w1 := [(ma 0, .inr (11, [.ref (ma 1), .ref (ma 2), .int 0, .long 0, .long 1, .ref (ma 3), .ref (ma 4), .ref (ma 5), .ref (ma 6), .ref (ma 7), .int 0, .int 0, .int 0, .int 0, .int 0, .int 0, .int (-1), .int (-1), .int 0, .int 0, .int 0, .ref (ma 8), .int 0, .int 0, .int (-1), .int 0, .int 0, .int 0, .ref (ma 9), .int 0, .int 0, .ref (ma 10), .ref (ma 11), .ref (ma 12), .int 0, .int 0])), (ma 1, .inl (kc 0, 2880, .inl at0))]) hP hD [0, 1] [] rfl rfl (by decide) (by decide) hk1 hFc hP1 hD1
  have hP : va_P D vwCl [(ma 0, .inr (11, [.ref (ma 1), .ref (ma 2), .int 0, .long 0, .long 1, .ref (ma 3), .ref (ma 4), .ref (ma 5), .ref (ma 6), .ref (ma 7), .int 0, .int 0, .int 0, .int 0, .int 0, .int 0, .int (-1), .int (-1), .int 0, .int 0, .int 0, .ref (ma 8), .int 0, .int 0, .int (-1), .int 0, .int 0, .int 0, .ref (ma 9), .int 0, .int 0, .ref (ma 10), .ref (ma 11), .ref (ma 12), .int 0, .int 0])), (ma 1, .inl (kc 0, 2880, .inl at0))] H := hP
  have hD : va_D A [(ma 0, .inr (11, [.ref (ma 1), .ref (ma 2), .int 0, .long 0, .long 1, .ref (ma 3), .ref (ma 4), .ref (ma 5), .ref (ma 6), .ref (ma 7), .int 0, .int 0, .int 0, .int 0, .int 0, .int 0, .int (-1), .int (-1), .int 0, .int 0, .int 0, .ref (ma 8), .int 0, .int 0, .int (-1), .int 0, .int 0, .int 0, .ref (ma 9), .int 0, .int 0, .ref (ma 10), .ref (ma 11), .ref (ma 12), .int 0, .int 0])), (ma 1, .inl (kc 0, 2880, .inl at0))] := hD
  subst hw
  refine lv_istore_n (lv' := [(2, .int 1), (0, .ref (ma 0)), (1, .int a0)]) hx hb dX12_nobodys_5 rfl hl (by decide) rfl (fun ls hl => ?_)
  refine lv_iload_n hx hb dX12_nobodys_6 rfl (lv_at hl 0 rfl) ?_
  refine lv_if_le (tgt := 16) hx hb dX12_nobodys_7 (by decide) (fun h => absurd h (by decide)) (fun _ => ?_)
  refine lv_aload_n hx hb dX12_nobodys_10 rfl (lv_at hl 1 rfl) ?_
  refine lv_iload_n hx hb dX12_nobodys_11 rfl (lv_at hl 0 rfl) ?_
  have hPc := hP.sub (ws' := [(ma 0, .inr (11, [.ref (ma 1), .ref (ma 2), .int 0, .long 0, .long 1, .ref (ma 3), .ref (ma 4), .ref (ma 5), .ref (ma 6), .ref (ma 7), .int 0, .int 0, .int 0, .int 0, .int 0, .int 0, .int (-1), .int (-1), .int 0, .int 0, .int 0, .ref (ma 8), .int 0, .int 0, .int (-1), .int 0, .int 0, .int 0, .ref (ma 9), .int 0, .int 0, .ref (ma 10), .ref (ma 11), .ref (ma 12), .int 0, .int 0]))]) [0] rfl
  have hDc := hD.sub (ws' := [(ma 0, .inr (11, [.ref (ma 1), .ref (ma 2), .int 0, .long 0, .long 1, .ref (ma 3), .ref (ma 4), .ref (ma 5), .ref (ma 6), .ref (ma 7), .int 0, .int 0, .int 0, .int 0, .int 0, .int 0, .int (-1), .int (-1), .int 0, .int 0, .int 0, .ref (ma 8), .int 0, .int 0, .int (-1), .int 0, .int 0, .int 0, .ref (ma 9), .int 0, .int 0, .ref (ma 10), .ref (ma 11), .ref (ma 12), .int 0, .int 0]))]) [0] (by decide) rfl
  have hFc := va_free (wc := [(ma 0, .inr (11, [.ref (ma 1), .ref (ma 2), .int 0, .long 0, .long 1, .ref (ma 3), .ref (ma 4), .ref (ma 5), .ref (ma 6), .ref (ma 7), .int 0, .int 0, .int 0, .int 0, .int 0, .int 0, .int (-1), .int (-1), .int 0, .int 0, .int 0, .ref (ma 8), .int 0, .int 0, .int (-1), .int 0, .int 0, .int 0, .ref (ma 9), .int 0, .int 0, .ref (ma 10), .ref (ma 11), .ref (ma 12), .int 0, .int 0]))]) hD hS hA [0] rfl
  refine va_calli (va_runV (As := [.int 1]) (rest := []) ⟨hx, hb, hml, hown, hts⟩ (m_refuse l D kc H.size ma 0 0 1 0 0 0 0 0 0 (-1) (-1) 0 0 0 0 0 (-1) 0 0 0 0 0 0 0 1) (cwV 1 hts gq_nobodys_72_m_refuse rfl rfl rfl (by decide +kernel) ⟨Nat.le_of_ble_eq_true rfl, Nat.le_of_ble_eq_true rfl⟩) (preV_ok hPc hDc hE (ci := 11) (q0 := 0) rfl rfl) rfl rfl hl.1 rfl (lv_room (Nat.le_of_ble_eq_true rfl)) dX12_nobodys_12 ⟨Nat.le_of_ble_eq_true rfl, Nat.le_of_ble_eq_true rfl⟩) hS (fun q _ h => hFc q h) hFc (fun r_12 u9 t9 H locs ht hvm hw hB hz1 hk1 hS => ?_)
  obtain ⟨hP1, hD1⟩ := hB
  rw [ht] at hP1
  obtain ⟨hP, hD⟩ := va_join (wr := [(ma 1, .inl (kc 0, 2880, .inl at0))]) (w1 := [(ma 0, .inr (11, [.ref (ma 1), .ref (ma 2), .int 1, .long 0, .long 1, .ref (ma 3), .ref (ma 4), .ref (ma 5), .ref (ma 6), .ref (ma 7), .int 0, .int 0, .int 0, .int 0, .int 0, .int 0, .int (-1), .int (-1), .int 0, .int 0, .int 0, .ref (ma 8), .int 0, .int 0, .int (-1), .int 0, .int 0, .int 0, .ref (ma 9), .int 0, .int 0, .ref (ma 10), .ref (ma 11), .ref (ma 12), .int 0, .int 0]))]) hP hD [0] [1] rfl rfl (by decide) (by decide) hk1 hFc hP1 hD1
  have hP : va_P D vwCl [(ma 1, .inl (kc 0, 2880, .inl at0)), (ma 0, .inr (11, [.ref (ma 1), .ref (ma 2), .int 1, .long 0, .long 1, .ref (ma 3), .ref (ma 4), .ref (ma 5), .ref (ma 6), .ref (ma 7), .int 0, .int 0, .int 0, .int 0, .int 0, .int 0, .int (-1), .int (-1), .int 0, .int 0, .int 0, .ref (ma 8), .int 0, .int 0, .int (-1), .int 0, .int 0, .int 0, .ref (ma 9), .int 0, .int 0, .ref (ma 10), .ref (ma 11), .ref (ma 12), .int 0, .int 0]))] H := hP
  have hD : va_D A [(ma 1, .inl (kc 0, 2880, .inl at0)), (ma 0, .inr (11, [.ref (ma 1), .ref (ma 2), .int 1, .long 0, .long 1, .ref (ma 3), .ref (ma 4), .ref (ma 5), .ref (ma 6), .ref (ma 7), .int 0, .int 0, .int 0, .int 0, .int 0, .int 0, .int (-1), .int (-1), .int 0, .int 0, .int 0, .ref (ma 8), .int 0, .int 0, .int (-1), .int 0, .int 0, .int 0, .ref (ma 9), .int 0, .int 0, .ref (ma 10), .ref (ma 11), .ref (ma 12), .int 0, .int 0]))] := hD
  subst hw
  exact W.iret (v := (-1)) hx hb hr (fun t9 ht hW => ⟨⟨(-1), (), rfl, rfl, trivial⟩, hS.F ht⟩) hS.2.2 dX12_nobodys_15
theorem dX12_strew_0 : decode cX12_strew 0 = .ok (.iload_n 2, 1) := by decide +kernel
theorem dX12_strew_1 : decode cX12_strew 1 = .ok (.i2l, 1) := by decide +kernel
theorem dX12_strew_2 : decode cX12_strew 2 = .ok (.lconst 1, 1) := by decide +kernel
theorem dX12_strew_3 : decode cX12_strew 3 = .ok (.ldc2_w 296, 3) := by decide +kernel
theorem dX12_strew_6 : decode cX12_strew 6 = .ok (.invokestatic 298, 3) := by decide +kernel
theorem dX12_strew_9 : decode cX12_strew 9 = .ok (.ifCond .ne 7, 3) := by decide +kernel
theorem dX12_strew_16 : decode cX12_strew 16 = .ok (.aload_n 0, 1) := by decide +kernel
theorem dX12_strew_17 : decode cX12_strew 17 = .ok (.iload_n 1, 1) := by decide +kernel
theorem dX12_strew_18 : decode cX12_strew 18 = .ok (.invokevirtual 263, 3) := by decide +kernel
theorem dX12_strew_21 : decode cX12_strew 21 = .ok (.istore_n 3, 1) := by decide +kernel
theorem dX12_strew_22 : decode cX12_strew 22 = .ok (.iload_n 3, 1) := by decide +kernel
theorem dX12_strew_23 : decode cX12_strew 23 = .ok (.iconst 1, 1) := by decide +kernel
theorem dX12_strew_24 : decode cX12_strew 24 = .ok (.if_icmp .ne 9, 3) := by decide +kernel
theorem dX12_strew_27 : decode cX12_strew 27 = .ok (.aload_n 0, 1) := by decide +kernel
theorem dX12_strew_28 : decode cX12_strew 28 = .ok (.iconst 1, 1) := by decide +kernel
theorem dX12_strew_29 : decode cX12_strew 29 = .ok (.invokevirtual 72, 3) := by decide +kernel
theorem dX12_strew_32 : decode cX12_strew 32 = .ok (.ireturn, 1) := by decide +kernel
theorem dX12_strew_12 : decode cX12_strew 12 = .ok (.iconst 1, 1) := by decide +kernel
theorem dX12_strew_13 : decode cX12_strew 13 = .ok (.goto 8, 3) := by decide +kernel
def vdq_strew : List Cond := [.code yX12_strew cX12_strew 4 (some .int), .constantLong RX12 296 (999), .methodLink RX12 298 yX12_isFrom, .code yX12_isFrom cX12_isFrom 6 (some .boolean), .static yX12_isFrom, .initialized RX12, .methodLink RX12 263 yX12_wrongStep, .code yX12_wrongStep cX12_wrongStep 2 (some .int), .methodLink RX12 251 yX12_isHouse, .code yX12_isHouse cX12_isHouse 2 (some .boolean), .fieldLink RX12 7 "SaltStreetModel" "at" "[I", .instanceMethod yX12_isHouse, .selects RX12 yX12_isHouse yX12_isHouse, .instanceMethod yX12_wrongStep, .selects RX12 yX12_wrongStep yX12_wrongStep, .methodLink RX12 72 yX12_refuse, .code yX12_refuse cX12_refuse 2 (some .int), .fieldLink RX12 66 "SaltStreetModel" "status" "I", .instanceMethod yX12_refuse, .selects RX12 yX12_refuse yX12_refuse]
def vq_strew : List Cond := vdq_strew ++ (wsX120 ++ ([] : List Cond))
theorem iq_strew_X12 : ∀ w ∈ wsX120, w ∈ vq_strew := fun _ h => List.mem_append_right _ (List.mem_append_left _ h)
set_option maxRecDepth 20000 in
theorem gq_strew_298_m_isFrom : GoodIn vq_strew (va_wsS RX12 298 yX12_isFrom vm_isFrom) := (goodIn_app (goodIn_r _ [2, 4, 5] rfl (by decide +kernel)) (goodIn_app (goodIn_r vdm_isFrom [3] rfl (by decide +kernel)) goodIn_nil))
set_option maxRecDepth 20000 in
theorem gq_strew_263_m_wrongStep : GoodIn vq_strew (wsV RX12 263 RX12 yX12_wrongStep vm_wrongStep) := (goodIn_app (goodIn_r _ [6, 13, 14, 5] rfl (by decide +kernel)) (goodIn_app (goodIn_r vdm_wrongStep [7, 8, 9, 10, 11, 12, 5] rfl (by decide +kernel)) (goodIn_app (goodIn_sub iq_strew_X12 gdX12) goodIn_nil)))
set_option maxRecDepth 20000 in
theorem gq_strew_72_m_refuse : GoodIn vq_strew (wsV RX12 72 RX12 yX12_refuse vm_refuse) := (goodIn_app (goodIn_r _ [15, 18, 19, 5] rfl (by decide +kernel)) (goodIn_app (goodIn_r vdm_refuse [16, 17] rfl (by decide +kernel)) (goodIn_app (goodIn_sub iq_strew_X12 gdX12) goodIn_nil)))
set_option maxHeartbeats 4000000 in
set_option maxRecDepth 100000 in
theorem q_strew (l : Launch) (D : va_G) (kc : Nat → ClassId) (sz : Nat) (ma : Nat → Nat) (a0 : Int32) (a1 : Int32) : Met l yX12_strew vq_strew ({ frames := 2, cells := 0, slots := 0, locals := 42 }) (va_Pc [.ref (ma 0), .int a0, .int a1] (wPre D kc [(ma 0, .inr (11, [.ref (ma 1), .ref (ma 2), .int 0, .long 0, .long 1, .ref (ma 3), .ref (ma 4), .ref (ma 5), .ref (ma 6), .ref (ma 7), .int 0, .int 0, .int 0, .int 0, .int 0, .int 0, .int (-1), .int (-1), .int 0, .int 0, .int 0, .ref (ma 8), .int 0, .int 0, .int (-1), .int 0, .int 0, .int 0, .ref (ma 9), .int 0, .int 0, .ref (ma 10), .ref (ma 11), .ref (ma 12), .int 0, .int 0])), (ma 1, .inl (kc 0, 2880, .inl at0))] sz)) (va_Qi (fun (r : Int32) (_ : Unit) => r = (-1)) wAny (va_A [(ma 0, .inr (11, [.ref (ma 1), .ref (ma 2), .int 0, .long 0, .long 1, .ref (ma 3), .ref (ma 4), .ref (ma 5), .ref (ma 6), .ref (ma 7), .int 0, .int 0, .int 0, .int 0, .int 0, .int 0, .int (-1), .int (-1), .int 0, .int 0, .int 0, .ref (ma 8), .int 0, .int 0, .int (-1), .int 0, .int 0, .int 0, .ref (ma 9), .int 0, .int 0, .ref (ma 10), .ref (ma 11), .ref (ma 12), .int 0, .int 0])), (ma 1, .inl (kc 0, 2880, .inl at0))] sz)) 0 0 (va_A [(ma 0, .inr (11, [.ref (ma 1), .ref (ma 2), .int 0, .long 0, .long 1, .ref (ma 3), .ref (ma 4), .ref (ma 5), .ref (ma 6), .ref (ma 7), .int 0, .int 0, .int 0, .int 0, .int 0, .int 0, .int (-1), .int (-1), .int 0, .int 0, .int 0, .ref (ma 8), .int 0, .int 0, .int (-1), .int 0, .int 0, .int 0, .ref (ma 9), .int 0, .int 0, .ref (ma 10), .ref (ma 11), .ref (ma 12), .int 0, .int 0])), (ma 1, .inl (kc 0, 2880, .inl at0))] sz) := by
  refine Met.ofW (cc := cX12_strew) (maxL := 4) (ret := (some .int)) (by decide) rfl ?_
  intro p e s m args below meth c s₁ B hml hv
  obtain ⟨rfl, hsz, hP, hE, hD0⟩ := hv
  have hx := B.exec
  have hb := B.bytes
  have hr := B.returns
  have hts := atoms_spec (ws := vq_strew) B.pre
  have hown : s.vm.findClass RX12 = some m.cls := findClass_of_methodNamed B.named
  have hlocks := B.notSynchronized
  subst hsz
  have hD := hD0.self (sz := s.heap.size)
  generalize hAe : va_A [(ma 0, .inr (11, [.ref (ma 1), .ref (ma 2), .int 0, .long 0, .long 1, .ref (ma 3), .ref (ma 4), .ref (ma 5), .ref (ma 6), .ref (ma 7), .int 0, .int 0, .int 0, .int 0, .int 0, .int 0, .int (-1), .int (-1), .int 0, .int 0, .int 0, .ref (ma 8), .int 0, .int 0, .int (-1), .int 0, .int 0, .int 0, .ref (ma 9), .int 0, .int 0, .ref (ma 10), .ref (ma 11), .ref (ma 12), .int 0, .int 0])), (ma 1, .inl (kc 0, 2880, .inl at0))] s.heap.size = A at hD ⊢
  have hA : ∀ q : Nat, s.heap.size ≤ q → A q := fun q h => by rw [← hAe]; exact Or.inr h
  have hS : va_S A s.heap s.heap [] := va_S.rf
  have hK := hE.1
  have hP : va_P D vwCl [(ma 0, .inr (11, [.ref (ma 1), .ref (ma 2), .int 0, .long 0, .long 1, .ref (ma 3), .ref (ma 4), .ref (ma 5), .ref (ma 6), .ref (ma 7), .int 0, .int 0, .int 0, .int 0, .int 0, .int 0, .int (-1), .int (-1), .int 0, .int 0, .int 0, .ref (ma 8), .int 0, .int 0, .int (-1), .int 0, .int 0, .int 0, .ref (ma 9), .int 0, .int 0, .ref (ma 10), .ref (ma 11), .ref (ma 12), .int 0, .int 0])), (ma 1, .inl (kc 0, 2880, .inl at0))] s.heap := hP
  have hl := lv_entry ([.ref (ma 0), .int a0, .int a1]) (n := 4) (Nat.le_of_ble_eq_true rfl)
  rw [lg_entry_eq]
  generalize (lg_sl ([.ref (ma 0), .int a0, .int a1]) ++ List.replicate (4 - (lg_sl ([.ref (ma 0), .int a0, .int a1])).length) Slot.unset).toArray = ls at hl ⊢
  have hl : lv_has ls 4 [(0, .ref (ma 0)), (1, .int a0), (2, .int a1)] := hl
  refine lv_iload_n hx hb dX12_strew_0 rfl (lv_at hl 2 rfl) ?_
  refine lv_i2l (v := (a1.toInt64)) hx hb dX12_strew_1 rfl ?_
  refine lv_lconst (v := 1) hx hb dX12_strew_2 (by decide) ?_
  refine lv_ldc2 (v := 999) hx hb hown (hts (.constantLong RX12 296 (999)) (List.mem_of_getElem? (i := 1) rfl)) dX12_strew_3 ?_
  have hPc := hP.sub (ws' := []) [] rfl
  have hDc := hD.sub (ws' := []) [] (by decide) rfl
  have hFc := va_free (wc := []) hD hS hA [] rfl
  refine va_calli (va_runS (As := [.long (a1.toInt64), .long 1, .long 999]) (rest := []) ⟨hx, hb, hml, hown, hts⟩ (m_isFrom l D kc s.heap.size (a1.toInt64) 1 999) (va_cwS 3 hts gq_strew_298_m_isFrom rfl rfl rfl (by decide +kernel) ⟨Nat.le_of_ble_eq_true rfl, Nat.le_of_ble_eq_true rfl⟩) (preS_ok hPc hDc hE) rfl rfl hl.1 rfl (lv_room (Nat.le_of_ble_eq_true rfl)) dX12_strew_6 ⟨Nat.le_of_ble_eq_true rfl, Nat.le_of_ble_eq_true rfl⟩) hS (fun q _ h => hFc q h) hFc (fun r_6 u9 t9 H locs ht hvm hw hB hz1 hk1 hS => ?_)
  obtain ⟨hP1, hD1⟩ := hB
  rw [ht] at hP1
  obtain ⟨hP, hD⟩ := va_join (wr := [(ma 0, .inr (11, [.ref (ma 1), .ref (ma 2), .int 0, .long 0, .long 1, .ref (ma 3), .ref (ma 4), .ref (ma 5), .ref (ma 6), .ref (ma 7), .int 0, .int 0, .int 0, .int 0, .int 0, .int 0, .int (-1), .int (-1), .int 0, .int 0, .int 0, .ref (ma 8), .int 0, .int 0, .int (-1), .int 0, .int 0, .int 0, .ref (ma 9), .int 0, .int 0, .ref (ma 10), .ref (ma 11), .ref (ma 12), .int 0, .int 0])), (ma 1, .inl (kc 0, 2880, .inl at0))]) (w1 := []) hP hD [] [0, 1] rfl rfl (by decide) (by decide) hk1 hFc hP1 hD1
  have hP : va_P D vwCl [(ma 0, .inr (11, [.ref (ma 1), .ref (ma 2), .int 0, .long 0, .long 1, .ref (ma 3), .ref (ma 4), .ref (ma 5), .ref (ma 6), .ref (ma 7), .int 0, .int 0, .int 0, .int 0, .int 0, .int 0, .int (-1), .int (-1), .int 0, .int 0, .int 0, .ref (ma 8), .int 0, .int 0, .int (-1), .int 0, .int 0, .int 0, .ref (ma 9), .int 0, .int 0, .ref (ma 10), .ref (ma 11), .ref (ma 12), .int 0, .int 0])), (ma 1, .inl (kc 0, 2880, .inl at0))] H := hP
  have hD : va_D A [(ma 0, .inr (11, [.ref (ma 1), .ref (ma 2), .int 0, .long 0, .long 1, .ref (ma 3), .ref (ma 4), .ref (ma 5), .ref (ma 6), .ref (ma 7), .int 0, .int 0, .int 0, .int 0, .int 0, .int 0, .int (-1), .int (-1), .int 0, .int 0, .int 0, .ref (ma 8), .int 0, .int 0, .int (-1), .int 0, .int 0, .int 0, .ref (ma 9), .int 0, .int 0, .ref (ma 10), .ref (ma 11), .ref (ma 12), .int 0, .int 0])), (ma 1, .inl (kc 0, 2880, .inl at0))] := hD
  subst hw
  refine lv_if_ne (tgt := 16) hx hb dX12_strew_9 (by decide) (fun c_9 => ?_) (fun c_9 => ?_)
  · refine lv_aload_n hx hb dX12_strew_16 rfl (lv_at hl 0 rfl) ?_
    refine lv_iload_n hx hb dX12_strew_17 rfl (lv_at hl 1 rfl) ?_
    have hPc := hP.sub (ws' := [(ma 0, .inr (11, [.ref (ma 1), .ref (ma 2), .int 0, .long 0, .long 1, .ref (ma 3), .ref (ma 4), .ref (ma 5), .ref (ma 6), .ref (ma 7), .int 0, .int 0, .int 0, .int 0, .int 0, .int 0, .int (-1), .int (-1), .int 0, .int 0, .int 0, .ref (ma 8), .int 0, .int 0, .int (-1), .int 0, .int 0, .int 0, .ref (ma 9), .int 0, .int 0, .ref (ma 10), .ref (ma 11), .ref (ma 12), .int 0, .int 0])), (ma 1, .inl (kc 0, 2880, .inl at0))]) [0, 1] rfl
    have hDc := hD.sub (ws' := [(ma 0, .inr (11, [.ref (ma 1), .ref (ma 2), .int 0, .long 0, .long 1, .ref (ma 3), .ref (ma 4), .ref (ma 5), .ref (ma 6), .ref (ma 7), .int 0, .int 0, .int 0, .int 0, .int 0, .int 0, .int (-1), .int (-1), .int 0, .int 0, .int 0, .ref (ma 8), .int 0, .int 0, .int (-1), .int 0, .int 0, .int 0, .ref (ma 9), .int 0, .int 0, .ref (ma 10), .ref (ma 11), .ref (ma 12), .int 0, .int 0])), (ma 1, .inl (kc 0, 2880, .inl at0))]) [0, 1] (by decide) rfl
    have hFc := va_free (wc := [(ma 0, .inr (11, [.ref (ma 1), .ref (ma 2), .int 0, .long 0, .long 1, .ref (ma 3), .ref (ma 4), .ref (ma 5), .ref (ma 6), .ref (ma 7), .int 0, .int 0, .int 0, .int 0, .int 0, .int 0, .int (-1), .int (-1), .int 0, .int 0, .int 0, .ref (ma 8), .int 0, .int 0, .int (-1), .int 0, .int 0, .int 0, .ref (ma 9), .int 0, .int 0, .ref (ma 10), .ref (ma 11), .ref (ma 12), .int 0, .int 0])), (ma 1, .inl (kc 0, 2880, .inl at0))]) hD hS hA [0, 1] rfl
    refine va_calli (va_runV (As := [.int a0]) (rest := []) ⟨hx, hb, hml, hown, hts⟩ (m_wrongStep l D kc H.size ma a0) (cwV 1 hts gq_strew_263_m_wrongStep rfl rfl rfl (by decide +kernel) ⟨Nat.le_of_ble_eq_true rfl, Nat.le_of_ble_eq_true rfl⟩) (preV_ok hPc hDc hE (ci := 11) (q0 := 0) rfl rfl) rfl rfl hl.1 rfl (lv_room (Nat.le_of_ble_eq_true rfl)) dX12_strew_18 ⟨Nat.le_of_ble_eq_true rfl, Nat.le_of_ble_eq_true rfl⟩) hS (fun q _ h => hFc q h) hFc (fun r_18_1 u9 t9 H locs ht hvm hw hB hz1 hk1 hS => ?_)
    obtain ⟨hP1, hD1⟩ := hB
    rw [ht] at hP1
    obtain ⟨hP, hD⟩ := va_join (wr := []) (w1 := [(ma 0, .inr (11, [.ref (ma 1), .ref (ma 2), .int 0, .long 0, .long 1, .ref (ma 3), .ref (ma 4), .ref (ma 5), .ref (ma 6), .ref (ma 7), .int 0, .int 0, .int 0, .int 0, .int 0, .int 0, .int (-1), .int (-1), .int 0, .int 0, .int 0, .ref (ma 8), .int 0, .int 0, .int (-1), .int 0, .int 0, .int 0, .ref (ma 9), .int 0, .int 0, .ref (ma 10), .ref (ma 11), .ref (ma 12), .int 0, .int 0])), (ma 1, .inl (kc 0, 2880, .inl at0))]) hP hD [0, 1] [] rfl rfl (by decide) (by decide) hk1 hFc hP1 hD1
    have hP : va_P D vwCl [(ma 0, .inr (11, [.ref (ma 1), .ref (ma 2), .int 0, .long 0, .long 1, .ref (ma 3), .ref (ma 4), .ref (ma 5), .ref (ma 6), .ref (ma 7), .int 0, .int 0, .int 0, .int 0, .int 0, .int 0, .int (-1), .int (-1), .int 0, .int 0, .int 0, .ref (ma 8), .int 0, .int 0, .int (-1), .int 0, .int 0, .int 0, .ref (ma 9), .int 0, .int 0, .ref (ma 10), .ref (ma 11), .ref (ma 12), .int 0, .int 0])), (ma 1, .inl (kc 0, 2880, .inl at0))] H := hP
    have hD : va_D A [(ma 0, .inr (11, [.ref (ma 1), .ref (ma 2), .int 0, .long 0, .long 1, .ref (ma 3), .ref (ma 4), .ref (ma 5), .ref (ma 6), .ref (ma 7), .int 0, .int 0, .int 0, .int 0, .int 0, .int 0, .int (-1), .int (-1), .int 0, .int 0, .int 0, .ref (ma 8), .int 0, .int 0, .int (-1), .int 0, .int 0, .int 0, .ref (ma 9), .int 0, .int 0, .ref (ma 10), .ref (ma 11), .ref (ma 12), .int 0, .int 0])), (ma 1, .inl (kc 0, 2880, .inl at0))] := hD
    subst hw
    refine lv_istore_n (lv' := [(3, .int 1), (0, .ref (ma 0)), (1, .int a0), (2, .int a1)]) hx hb dX12_strew_21 rfl hl (by decide) rfl (fun ls hl => ?_)
    refine lv_iload_n hx hb dX12_strew_22 rfl (lv_at hl 0 rfl) ?_
    refine lv_iconst (v := 1) hx hb dX12_strew_23 (by decide) ?_
    refine lv_icmp_ne (tgt := 33) hx hb dX12_strew_24 (by decide) (fun h => absurd (by decide) h) (fun _ => ?_)
    refine lv_aload_n hx hb dX12_strew_27 rfl (lv_at hl 1 rfl) ?_
    refine lv_iconst (v := 1) hx hb dX12_strew_28 (by decide) ?_
    have hPc := hP.sub (ws' := [(ma 0, .inr (11, [.ref (ma 1), .ref (ma 2), .int 0, .long 0, .long 1, .ref (ma 3), .ref (ma 4), .ref (ma 5), .ref (ma 6), .ref (ma 7), .int 0, .int 0, .int 0, .int 0, .int 0, .int 0, .int (-1), .int (-1), .int 0, .int 0, .int 0, .ref (ma 8), .int 0, .int 0, .int (-1), .int 0, .int 0, .int 0, .ref (ma 9), .int 0, .int 0, .ref (ma 10), .ref (ma 11), .ref (ma 12), .int 0, .int 0]))]) [0] rfl
    have hDc := hD.sub (ws' := [(ma 0, .inr (11, [.ref (ma 1), .ref (ma 2), .int 0, .long 0, .long 1, .ref (ma 3), .ref (ma 4), .ref (ma 5), .ref (ma 6), .ref (ma 7), .int 0, .int 0, .int 0, .int 0, .int 0, .int 0, .int (-1), .int (-1), .int 0, .int 0, .int 0, .ref (ma 8), .int 0, .int 0, .int (-1), .int 0, .int 0, .int 0, .ref (ma 9), .int 0, .int 0, .ref (ma 10), .ref (ma 11), .ref (ma 12), .int 0, .int 0]))]) [0] (by decide) rfl
    have hFc := va_free (wc := [(ma 0, .inr (11, [.ref (ma 1), .ref (ma 2), .int 0, .long 0, .long 1, .ref (ma 3), .ref (ma 4), .ref (ma 5), .ref (ma 6), .ref (ma 7), .int 0, .int 0, .int 0, .int 0, .int 0, .int 0, .int (-1), .int (-1), .int 0, .int 0, .int 0, .ref (ma 8), .int 0, .int 0, .int (-1), .int 0, .int 0, .int 0, .ref (ma 9), .int 0, .int 0, .ref (ma 10), .ref (ma 11), .ref (ma 12), .int 0, .int 0]))]) hD hS hA [0] rfl
    refine va_calli (va_runV (As := [.int 1]) (rest := []) ⟨hx, hb, hml, hown, hts⟩ (m_refuse l D kc H.size ma 0 0 1 0 0 0 0 0 0 (-1) (-1) 0 0 0 0 0 (-1) 0 0 0 0 0 0 0 1) (cwV 1 hts gq_strew_72_m_refuse rfl rfl rfl (by decide +kernel) ⟨Nat.le_of_ble_eq_true rfl, Nat.le_of_ble_eq_true rfl⟩) (preV_ok hPc hDc hE (ci := 11) (q0 := 0) rfl rfl) rfl rfl hl.1 rfl (lv_room (Nat.le_of_ble_eq_true rfl)) dX12_strew_29 ⟨Nat.le_of_ble_eq_true rfl, Nat.le_of_ble_eq_true rfl⟩) hS (fun q _ h => hFc q h) hFc (fun r_29_1 u9 t9 H locs ht hvm hw hB hz1 hk1 hS => ?_)
    obtain ⟨hP1, hD1⟩ := hB
    rw [ht] at hP1
    obtain ⟨hP, hD⟩ := va_join (wr := [(ma 1, .inl (kc 0, 2880, .inl at0))]) (w1 := [(ma 0, .inr (11, [.ref (ma 1), .ref (ma 2), .int 1, .long 0, .long 1, .ref (ma 3), .ref (ma 4), .ref (ma 5), .ref (ma 6), .ref (ma 7), .int 0, .int 0, .int 0, .int 0, .int 0, .int 0, .int (-1), .int (-1), .int 0, .int 0, .int 0, .ref (ma 8), .int 0, .int 0, .int (-1), .int 0, .int 0, .int 0, .ref (ma 9), .int 0, .int 0, .ref (ma 10), .ref (ma 11), .ref (ma 12), .int 0, .int 0]))]) hP hD [0] [1] rfl rfl (by decide) (by decide) hk1 hFc hP1 hD1
    have hP : va_P D vwCl [(ma 1, .inl (kc 0, 2880, .inl at0)), (ma 0, .inr (11, [.ref (ma 1), .ref (ma 2), .int 1, .long 0, .long 1, .ref (ma 3), .ref (ma 4), .ref (ma 5), .ref (ma 6), .ref (ma 7), .int 0, .int 0, .int 0, .int 0, .int 0, .int 0, .int (-1), .int (-1), .int 0, .int 0, .int 0, .ref (ma 8), .int 0, .int 0, .int (-1), .int 0, .int 0, .int 0, .ref (ma 9), .int 0, .int 0, .ref (ma 10), .ref (ma 11), .ref (ma 12), .int 0, .int 0]))] H := hP
    have hD : va_D A [(ma 1, .inl (kc 0, 2880, .inl at0)), (ma 0, .inr (11, [.ref (ma 1), .ref (ma 2), .int 1, .long 0, .long 1, .ref (ma 3), .ref (ma 4), .ref (ma 5), .ref (ma 6), .ref (ma 7), .int 0, .int 0, .int 0, .int 0, .int 0, .int 0, .int (-1), .int (-1), .int 0, .int 0, .int 0, .ref (ma 8), .int 0, .int 0, .int (-1), .int 0, .int 0, .int 0, .ref (ma 9), .int 0, .int 0, .ref (ma 10), .ref (ma 11), .ref (ma 12), .int 0, .int 0]))] := hD
    subst hw
    exact W.iret (v := (-1)) hx hb hr (fun t9 ht hW => ⟨⟨(-1), (), rfl, rfl, trivial⟩, hS.F ht⟩) hS.2.2 dX12_strew_32
  · refine lv_iconst (v := 1) hx hb dX12_strew_12 (by decide) ?_
    refine lv_goto (tgt := 21) hx hb dX12_strew_13 (by decide) ?_
    refine lv_istore_n (lv' := [(3, .int 1), (0, .ref (ma 0)), (1, .int a0), (2, .int a1)]) hx hb dX12_strew_21 rfl hl (by decide) rfl (fun ls hl => ?_)
    refine lv_iload_n hx hb dX12_strew_22 rfl (lv_at hl 0 rfl) ?_
    refine lv_iconst (v := 1) hx hb dX12_strew_23 (by decide) ?_
    refine lv_icmp_ne (tgt := 33) hx hb dX12_strew_24 (by decide) (fun h => absurd (by decide) h) (fun _ => ?_)
    refine lv_aload_n hx hb dX12_strew_27 rfl (lv_at hl 1 rfl) ?_
    refine lv_iconst (v := 1) hx hb dX12_strew_28 (by decide) ?_
    have hPc := hP.sub (ws' := [(ma 0, .inr (11, [.ref (ma 1), .ref (ma 2), .int 0, .long 0, .long 1, .ref (ma 3), .ref (ma 4), .ref (ma 5), .ref (ma 6), .ref (ma 7), .int 0, .int 0, .int 0, .int 0, .int 0, .int 0, .int (-1), .int (-1), .int 0, .int 0, .int 0, .ref (ma 8), .int 0, .int 0, .int (-1), .int 0, .int 0, .int 0, .ref (ma 9), .int 0, .int 0, .ref (ma 10), .ref (ma 11), .ref (ma 12), .int 0, .int 0]))]) [0] rfl
    have hDc := hD.sub (ws' := [(ma 0, .inr (11, [.ref (ma 1), .ref (ma 2), .int 0, .long 0, .long 1, .ref (ma 3), .ref (ma 4), .ref (ma 5), .ref (ma 6), .ref (ma 7), .int 0, .int 0, .int 0, .int 0, .int 0, .int 0, .int (-1), .int (-1), .int 0, .int 0, .int 0, .ref (ma 8), .int 0, .int 0, .int (-1), .int 0, .int 0, .int 0, .ref (ma 9), .int 0, .int 0, .ref (ma 10), .ref (ma 11), .ref (ma 12), .int 0, .int 0]))]) [0] (by decide) rfl
    have hFc := va_free (wc := [(ma 0, .inr (11, [.ref (ma 1), .ref (ma 2), .int 0, .long 0, .long 1, .ref (ma 3), .ref (ma 4), .ref (ma 5), .ref (ma 6), .ref (ma 7), .int 0, .int 0, .int 0, .int 0, .int 0, .int 0, .int (-1), .int (-1), .int 0, .int 0, .int 0, .ref (ma 8), .int 0, .int 0, .int (-1), .int 0, .int 0, .int 0, .ref (ma 9), .int 0, .int 0, .ref (ma 10), .ref (ma 11), .ref (ma 12), .int 0, .int 0]))]) hD hS hA [0] rfl
    refine va_calli (va_runV (As := [.int 1]) (rest := []) ⟨hx, hb, hml, hown, hts⟩ (m_refuse l D kc H.size ma 0 0 1 0 0 0 0 0 0 (-1) (-1) 0 0 0 0 0 (-1) 0 0 0 0 0 0 0 1) (cwV 1 hts gq_strew_72_m_refuse rfl rfl rfl (by decide +kernel) ⟨Nat.le_of_ble_eq_true rfl, Nat.le_of_ble_eq_true rfl⟩) (preV_ok hPc hDc hE (ci := 11) (q0 := 0) rfl rfl) rfl rfl hl.1 rfl (lv_room (Nat.le_of_ble_eq_true rfl)) dX12_strew_29 ⟨Nat.le_of_ble_eq_true rfl, Nat.le_of_ble_eq_true rfl⟩) hS (fun q _ h => hFc q h) hFc (fun r_29_1 u9 t9 H locs ht hvm hw hB hz1 hk1 hS => ?_)
    obtain ⟨hP1, hD1⟩ := hB
    rw [ht] at hP1
    obtain ⟨hP, hD⟩ := va_join (wr := [(ma 1, .inl (kc 0, 2880, .inl at0))]) (w1 := [(ma 0, .inr (11, [.ref (ma 1), .ref (ma 2), .int 1, .long 0, .long 1, .ref (ma 3), .ref (ma 4), .ref (ma 5), .ref (ma 6), .ref (ma 7), .int 0, .int 0, .int 0, .int 0, .int 0, .int 0, .int (-1), .int (-1), .int 0, .int 0, .int 0, .ref (ma 8), .int 0, .int 0, .int (-1), .int 0, .int 0, .int 0, .ref (ma 9), .int 0, .int 0, .ref (ma 10), .ref (ma 11), .ref (ma 12), .int 0, .int 0]))]) hP hD [0] [1] rfl rfl (by decide) (by decide) hk1 hFc hP1 hD1
    have hP : va_P D vwCl [(ma 1, .inl (kc 0, 2880, .inl at0)), (ma 0, .inr (11, [.ref (ma 1), .ref (ma 2), .int 1, .long 0, .long 1, .ref (ma 3), .ref (ma 4), .ref (ma 5), .ref (ma 6), .ref (ma 7), .int 0, .int 0, .int 0, .int 0, .int 0, .int 0, .int (-1), .int (-1), .int 0, .int 0, .int 0, .ref (ma 8), .int 0, .int 0, .int (-1), .int 0, .int 0, .int 0, .ref (ma 9), .int 0, .int 0, .ref (ma 10), .ref (ma 11), .ref (ma 12), .int 0, .int 0]))] H := hP
    have hD : va_D A [(ma 1, .inl (kc 0, 2880, .inl at0)), (ma 0, .inr (11, [.ref (ma 1), .ref (ma 2), .int 1, .long 0, .long 1, .ref (ma 3), .ref (ma 4), .ref (ma 5), .ref (ma 6), .ref (ma 7), .int 0, .int 0, .int 0, .int 0, .int 0, .int 0, .int (-1), .int (-1), .int 0, .int 0, .int 0, .ref (ma 8), .int 0, .int 0, .int (-1), .int 0, .int 0, .int 0, .ref (ma 9), .int 0, .int 0, .ref (ma 10), .ref (ma 11), .ref (ma 12), .int 0, .int 0]))] := hD
    subst hw
    exact W.iret (v := (-1)) hx hb hr (fun t9 ht hW => ⟨⟨(-1), (), rfl, rfl, trivial⟩, hS.F ht⟩) hS.2.2 dX12_strew_32
theorem dX12_sweep_0 : decode cX12_sweep 0 = .ok (.aload_n 0, 1) := by decide +kernel
theorem dX12_sweep_1 : decode cX12_sweep 1 = .ok (.iload_n 1, 1) := by decide +kernel
theorem dX12_sweep_2 : decode cX12_sweep 2 = .ok (.invokevirtual 263, 3) := by decide +kernel
theorem dX12_sweep_5 : decode cX12_sweep 5 = .ok (.istore_n 2, 1) := by decide +kernel
theorem dX12_sweep_6 : decode cX12_sweep 6 = .ok (.iload_n 2, 1) := by decide +kernel
theorem dX12_sweep_7 : decode cX12_sweep 7 = .ok (.ifCond .le 11, 3) := by decide +kernel
theorem dX12_sweep_10 : decode cX12_sweep 10 = .ok (.aload_n 0, 1) := by decide +kernel
theorem dX12_sweep_11 : decode cX12_sweep 11 = .ok (.iload_n 2, 1) := by decide +kernel
theorem dX12_sweep_12 : decode cX12_sweep 12 = .ok (.invokevirtual 72, 3) := by decide +kernel
theorem dX12_sweep_15 : decode cX12_sweep 15 = .ok (.goto 12, 3) := by decide +kernel
theorem dX12_sweep_27 : decode cX12_sweep 27 = .ok (.ireturn, 1) := by decide +kernel
def vdq_sweep : List Cond := [.code yX12_sweep cX12_sweep 3 (some .int), .methodLink RX12 263 yX12_wrongStep, .code yX12_wrongStep cX12_wrongStep 2 (some .int), .methodLink RX12 251 yX12_isHouse, .code yX12_isHouse cX12_isHouse 2 (some .boolean), .fieldLink RX12 7 "SaltStreetModel" "at" "[I", .instanceMethod yX12_isHouse, .selects RX12 yX12_isHouse yX12_isHouse, .initialized RX12, .instanceMethod yX12_wrongStep, .selects RX12 yX12_wrongStep yX12_wrongStep, .methodLink RX12 72 yX12_refuse, .code yX12_refuse cX12_refuse 2 (some .int), .fieldLink RX12 66 "SaltStreetModel" "status" "I", .instanceMethod yX12_refuse, .selects RX12 yX12_refuse yX12_refuse]
def vq_sweep : List Cond := vdq_sweep ++ (wsX120 ++ ([] : List Cond))
theorem iq_sweep_X12 : ∀ w ∈ wsX120, w ∈ vq_sweep := fun _ h => List.mem_append_right _ (List.mem_append_left _ h)
set_option maxRecDepth 20000 in
theorem gq_sweep_263_m_wrongStep : GoodIn vq_sweep (wsV RX12 263 RX12 yX12_wrongStep vm_wrongStep) := (goodIn_app (goodIn_r _ [1, 9, 10, 8] rfl (by decide +kernel)) (goodIn_app (goodIn_r vdm_wrongStep [2, 3, 4, 5, 6, 7, 8] rfl (by decide +kernel)) (goodIn_app (goodIn_sub iq_sweep_X12 gdX12) goodIn_nil)))
set_option maxRecDepth 20000 in
theorem gq_sweep_72_m_refuse : GoodIn vq_sweep (wsV RX12 72 RX12 yX12_refuse vm_refuse) := (goodIn_app (goodIn_r _ [11, 14, 15, 8] rfl (by decide +kernel)) (goodIn_app (goodIn_r vdm_refuse [12, 13] rfl (by decide +kernel)) (goodIn_app (goodIn_sub iq_sweep_X12 gdX12) goodIn_nil)))
set_option maxHeartbeats 4000000 in
set_option maxRecDepth 100000 in
theorem q_sweep (l : Launch) (D : va_G) (kc : Nat → ClassId) (sz : Nat) (ma : Nat → Nat) (a0 : Int32) : Met l yX12_sweep vq_sweep ({ frames := 2, cells := 0, slots := 0, locals := 42 }) (va_Pc [.ref (ma 0), .int a0] (wPre D kc [(ma 0, .inr (11, [.ref (ma 1), .ref (ma 2), .int 0, .long 0, .long 1, .ref (ma 3), .ref (ma 4), .ref (ma 5), .ref (ma 6), .ref (ma 7), .int 0, .int 0, .int 0, .int 0, .int 0, .int 0, .int (-1), .int (-1), .int 0, .int 0, .int 0, .ref (ma 8), .int 0, .int 0, .int (-1), .int 0, .int 0, .int 0, .ref (ma 9), .int 0, .int 0, .ref (ma 10), .ref (ma 11), .ref (ma 12), .int 0, .int 0])), (ma 1, .inl (kc 0, 2880, .inl at0))] sz)) (va_Qi (fun (r : Int32) (_ : Unit) => r = (-1)) wAny (va_A [(ma 0, .inr (11, [.ref (ma 1), .ref (ma 2), .int 0, .long 0, .long 1, .ref (ma 3), .ref (ma 4), .ref (ma 5), .ref (ma 6), .ref (ma 7), .int 0, .int 0, .int 0, .int 0, .int 0, .int 0, .int (-1), .int (-1), .int 0, .int 0, .int 0, .ref (ma 8), .int 0, .int 0, .int (-1), .int 0, .int 0, .int 0, .ref (ma 9), .int 0, .int 0, .ref (ma 10), .ref (ma 11), .ref (ma 12), .int 0, .int 0])), (ma 1, .inl (kc 0, 2880, .inl at0))] sz)) 0 0 (va_A [(ma 0, .inr (11, [.ref (ma 1), .ref (ma 2), .int 0, .long 0, .long 1, .ref (ma 3), .ref (ma 4), .ref (ma 5), .ref (ma 6), .ref (ma 7), .int 0, .int 0, .int 0, .int 0, .int 0, .int 0, .int (-1), .int (-1), .int 0, .int 0, .int 0, .ref (ma 8), .int 0, .int 0, .int (-1), .int 0, .int 0, .int 0, .ref (ma 9), .int 0, .int 0, .ref (ma 10), .ref (ma 11), .ref (ma 12), .int 0, .int 0])), (ma 1, .inl (kc 0, 2880, .inl at0))] sz) := by
  refine Met.ofW (cc := cX12_sweep) (maxL := 3) (ret := (some .int)) (by decide) rfl ?_
  intro p e s m args below meth c s₁ B hml hv
  obtain ⟨rfl, hsz, hP, hE, hD0⟩ := hv
  have hx := B.exec
  have hb := B.bytes
  have hr := B.returns
  have hts := atoms_spec (ws := vq_sweep) B.pre
  have hown : s.vm.findClass RX12 = some m.cls := findClass_of_methodNamed B.named
  have hlocks := B.notSynchronized
  subst hsz
  have hD := hD0.self (sz := s.heap.size)
  generalize hAe : va_A [(ma 0, .inr (11, [.ref (ma 1), .ref (ma 2), .int 0, .long 0, .long 1, .ref (ma 3), .ref (ma 4), .ref (ma 5), .ref (ma 6), .ref (ma 7), .int 0, .int 0, .int 0, .int 0, .int 0, .int 0, .int (-1), .int (-1), .int 0, .int 0, .int 0, .ref (ma 8), .int 0, .int 0, .int (-1), .int 0, .int 0, .int 0, .ref (ma 9), .int 0, .int 0, .ref (ma 10), .ref (ma 11), .ref (ma 12), .int 0, .int 0])), (ma 1, .inl (kc 0, 2880, .inl at0))] s.heap.size = A at hD ⊢
  have hA : ∀ q : Nat, s.heap.size ≤ q → A q := fun q h => by rw [← hAe]; exact Or.inr h
  have hS : va_S A s.heap s.heap [] := va_S.rf
  have hK := hE.1
  have hP : va_P D vwCl [(ma 0, .inr (11, [.ref (ma 1), .ref (ma 2), .int 0, .long 0, .long 1, .ref (ma 3), .ref (ma 4), .ref (ma 5), .ref (ma 6), .ref (ma 7), .int 0, .int 0, .int 0, .int 0, .int 0, .int 0, .int (-1), .int (-1), .int 0, .int 0, .int 0, .ref (ma 8), .int 0, .int 0, .int (-1), .int 0, .int 0, .int 0, .ref (ma 9), .int 0, .int 0, .ref (ma 10), .ref (ma 11), .ref (ma 12), .int 0, .int 0])), (ma 1, .inl (kc 0, 2880, .inl at0))] s.heap := hP
  have hl := lv_entry ([.ref (ma 0), .int a0]) (n := 3) (Nat.le_of_ble_eq_true rfl)
  rw [lg_entry_eq]
  generalize (lg_sl ([.ref (ma 0), .int a0]) ++ List.replicate (3 - (lg_sl ([.ref (ma 0), .int a0])).length) Slot.unset).toArray = ls at hl ⊢
  have hl : lv_has ls 3 [(0, .ref (ma 0)), (1, .int a0)] := hl
  refine lv_aload_n hx hb dX12_sweep_0 rfl (lv_at hl 0 rfl) ?_
  refine lv_iload_n hx hb dX12_sweep_1 rfl (lv_at hl 1 rfl) ?_
  have hPc := hP.sub (ws' := [(ma 0, .inr (11, [.ref (ma 1), .ref (ma 2), .int 0, .long 0, .long 1, .ref (ma 3), .ref (ma 4), .ref (ma 5), .ref (ma 6), .ref (ma 7), .int 0, .int 0, .int 0, .int 0, .int 0, .int 0, .int (-1), .int (-1), .int 0, .int 0, .int 0, .ref (ma 8), .int 0, .int 0, .int (-1), .int 0, .int 0, .int 0, .ref (ma 9), .int 0, .int 0, .ref (ma 10), .ref (ma 11), .ref (ma 12), .int 0, .int 0])), (ma 1, .inl (kc 0, 2880, .inl at0))]) [0, 1] rfl
  have hDc := hD.sub (ws' := [(ma 0, .inr (11, [.ref (ma 1), .ref (ma 2), .int 0, .long 0, .long 1, .ref (ma 3), .ref (ma 4), .ref (ma 5), .ref (ma 6), .ref (ma 7), .int 0, .int 0, .int 0, .int 0, .int 0, .int 0, .int (-1), .int (-1), .int 0, .int 0, .int 0, .ref (ma 8), .int 0, .int 0, .int (-1), .int 0, .int 0, .int 0, .ref (ma 9), .int 0, .int 0, .ref (ma 10), .ref (ma 11), .ref (ma 12), .int 0, .int 0])), (ma 1, .inl (kc 0, 2880, .inl at0))]) [0, 1] (by decide) rfl
  have hFc := va_free (wc := [(ma 0, .inr (11, [.ref (ma 1), .ref (ma 2), .int 0, .long 0, .long 1, .ref (ma 3), .ref (ma 4), .ref (ma 5), .ref (ma 6), .ref (ma 7), .int 0, .int 0, .int 0, .int 0, .int 0, .int 0, .int (-1), .int (-1), .int 0, .int 0, .int 0, .ref (ma 8), .int 0, .int 0, .int (-1), .int 0, .int 0, .int 0, .ref (ma 9), .int 0, .int 0, .ref (ma 10), .ref (ma 11), .ref (ma 12), .int 0, .int 0])), (ma 1, .inl (kc 0, 2880, .inl at0))]) hD hS hA [0, 1] rfl
  refine va_calli (va_runV (As := [.int a0]) (rest := []) ⟨hx, hb, hml, hown, hts⟩ (m_wrongStep l D kc s.heap.size ma a0) (cwV 1 hts gq_sweep_263_m_wrongStep rfl rfl rfl (by decide +kernel) ⟨Nat.le_of_ble_eq_true rfl, Nat.le_of_ble_eq_true rfl⟩) (preV_ok hPc hDc hE (ci := 11) (q0 := 0) rfl rfl) rfl rfl hl.1 rfl (lv_room (Nat.le_of_ble_eq_true rfl)) dX12_sweep_2 ⟨Nat.le_of_ble_eq_true rfl, Nat.le_of_ble_eq_true rfl⟩) hS (fun q _ h => hFc q h) hFc (fun r_2 u9 t9 H locs ht hvm hw hB hz1 hk1 hS => ?_)
  obtain ⟨hP1, hD1⟩ := hB
  rw [ht] at hP1
  obtain ⟨hP, hD⟩ := va_join (wr := []) (w1 := [(ma 0, .inr (11, [.ref (ma 1), .ref (ma 2), .int 0, .long 0, .long 1, .ref (ma 3), .ref (ma 4), .ref (ma 5), .ref (ma 6), .ref (ma 7), .int 0, .int 0, .int 0, .int 0, .int 0, .int 0, .int (-1), .int (-1), .int 0, .int 0, .int 0, .ref (ma 8), .int 0, .int 0, .int (-1), .int 0, .int 0, .int 0, .ref (ma 9), .int 0, .int 0, .ref (ma 10), .ref (ma 11), .ref (ma 12), .int 0, .int 0])), (ma 1, .inl (kc 0, 2880, .inl at0))]) hP hD [0, 1] [] rfl rfl (by decide) (by decide) hk1 hFc hP1 hD1
  have hP : va_P D vwCl [(ma 0, .inr (11, [.ref (ma 1), .ref (ma 2), .int 0, .long 0, .long 1, .ref (ma 3), .ref (ma 4), .ref (ma 5), .ref (ma 6), .ref (ma 7), .int 0, .int 0, .int 0, .int 0, .int 0, .int 0, .int (-1), .int (-1), .int 0, .int 0, .int 0, .ref (ma 8), .int 0, .int 0, .int (-1), .int 0, .int 0, .int 0, .ref (ma 9), .int 0, .int 0, .ref (ma 10), .ref (ma 11), .ref (ma 12), .int 0, .int 0])), (ma 1, .inl (kc 0, 2880, .inl at0))] H := hP
  have hD : va_D A [(ma 0, .inr (11, [.ref (ma 1), .ref (ma 2), .int 0, .long 0, .long 1, .ref (ma 3), .ref (ma 4), .ref (ma 5), .ref (ma 6), .ref (ma 7), .int 0, .int 0, .int 0, .int 0, .int 0, .int 0, .int (-1), .int (-1), .int 0, .int 0, .int 0, .ref (ma 8), .int 0, .int 0, .int (-1), .int 0, .int 0, .int 0, .ref (ma 9), .int 0, .int 0, .ref (ma 10), .ref (ma 11), .ref (ma 12), .int 0, .int 0])), (ma 1, .inl (kc 0, 2880, .inl at0))] := hD
  subst hw
  refine lv_istore_n (lv' := [(2, .int 1), (0, .ref (ma 0)), (1, .int a0)]) hx hb dX12_sweep_5 rfl hl (by decide) rfl (fun ls hl => ?_)
  refine lv_iload_n hx hb dX12_sweep_6 rfl (lv_at hl 0 rfl) ?_
  refine lv_if_le (tgt := 18) hx hb dX12_sweep_7 (by decide) (fun h => absurd h (by decide)) (fun _ => ?_)
  refine lv_aload_n hx hb dX12_sweep_10 rfl (lv_at hl 1 rfl) ?_
  refine lv_iload_n hx hb dX12_sweep_11 rfl (lv_at hl 0 rfl) ?_
  have hPc := hP.sub (ws' := [(ma 0, .inr (11, [.ref (ma 1), .ref (ma 2), .int 0, .long 0, .long 1, .ref (ma 3), .ref (ma 4), .ref (ma 5), .ref (ma 6), .ref (ma 7), .int 0, .int 0, .int 0, .int 0, .int 0, .int 0, .int (-1), .int (-1), .int 0, .int 0, .int 0, .ref (ma 8), .int 0, .int 0, .int (-1), .int 0, .int 0, .int 0, .ref (ma 9), .int 0, .int 0, .ref (ma 10), .ref (ma 11), .ref (ma 12), .int 0, .int 0]))]) [0] rfl
  have hDc := hD.sub (ws' := [(ma 0, .inr (11, [.ref (ma 1), .ref (ma 2), .int 0, .long 0, .long 1, .ref (ma 3), .ref (ma 4), .ref (ma 5), .ref (ma 6), .ref (ma 7), .int 0, .int 0, .int 0, .int 0, .int 0, .int 0, .int (-1), .int (-1), .int 0, .int 0, .int 0, .ref (ma 8), .int 0, .int 0, .int (-1), .int 0, .int 0, .int 0, .ref (ma 9), .int 0, .int 0, .ref (ma 10), .ref (ma 11), .ref (ma 12), .int 0, .int 0]))]) [0] (by decide) rfl
  have hFc := va_free (wc := [(ma 0, .inr (11, [.ref (ma 1), .ref (ma 2), .int 0, .long 0, .long 1, .ref (ma 3), .ref (ma 4), .ref (ma 5), .ref (ma 6), .ref (ma 7), .int 0, .int 0, .int 0, .int 0, .int 0, .int 0, .int (-1), .int (-1), .int 0, .int 0, .int 0, .ref (ma 8), .int 0, .int 0, .int (-1), .int 0, .int 0, .int 0, .ref (ma 9), .int 0, .int 0, .ref (ma 10), .ref (ma 11), .ref (ma 12), .int 0, .int 0]))]) hD hS hA [0] rfl
  refine va_calli (va_runV (As := [.int 1]) (rest := []) ⟨hx, hb, hml, hown, hts⟩ (m_refuse l D kc H.size ma 0 0 1 0 0 0 0 0 0 (-1) (-1) 0 0 0 0 0 (-1) 0 0 0 0 0 0 0 1) (cwV 1 hts gq_sweep_72_m_refuse rfl rfl rfl (by decide +kernel) ⟨Nat.le_of_ble_eq_true rfl, Nat.le_of_ble_eq_true rfl⟩) (preV_ok hPc hDc hE (ci := 11) (q0 := 0) rfl rfl) rfl rfl hl.1 rfl (lv_room (Nat.le_of_ble_eq_true rfl)) dX12_sweep_12 ⟨Nat.le_of_ble_eq_true rfl, Nat.le_of_ble_eq_true rfl⟩) hS (fun q _ h => hFc q h) hFc (fun r_12 u9 t9 H locs ht hvm hw hB hz1 hk1 hS => ?_)
  obtain ⟨hP1, hD1⟩ := hB
  rw [ht] at hP1
  obtain ⟨hP, hD⟩ := va_join (wr := [(ma 1, .inl (kc 0, 2880, .inl at0))]) (w1 := [(ma 0, .inr (11, [.ref (ma 1), .ref (ma 2), .int 1, .long 0, .long 1, .ref (ma 3), .ref (ma 4), .ref (ma 5), .ref (ma 6), .ref (ma 7), .int 0, .int 0, .int 0, .int 0, .int 0, .int 0, .int (-1), .int (-1), .int 0, .int 0, .int 0, .ref (ma 8), .int 0, .int 0, .int (-1), .int 0, .int 0, .int 0, .ref (ma 9), .int 0, .int 0, .ref (ma 10), .ref (ma 11), .ref (ma 12), .int 0, .int 0]))]) hP hD [0] [1] rfl rfl (by decide) (by decide) hk1 hFc hP1 hD1
  have hP : va_P D vwCl [(ma 1, .inl (kc 0, 2880, .inl at0)), (ma 0, .inr (11, [.ref (ma 1), .ref (ma 2), .int 1, .long 0, .long 1, .ref (ma 3), .ref (ma 4), .ref (ma 5), .ref (ma 6), .ref (ma 7), .int 0, .int 0, .int 0, .int 0, .int 0, .int 0, .int (-1), .int (-1), .int 0, .int 0, .int 0, .ref (ma 8), .int 0, .int 0, .int (-1), .int 0, .int 0, .int 0, .ref (ma 9), .int 0, .int 0, .ref (ma 10), .ref (ma 11), .ref (ma 12), .int 0, .int 0]))] H := hP
  have hD : va_D A [(ma 1, .inl (kc 0, 2880, .inl at0)), (ma 0, .inr (11, [.ref (ma 1), .ref (ma 2), .int 1, .long 0, .long 1, .ref (ma 3), .ref (ma 4), .ref (ma 5), .ref (ma 6), .ref (ma 7), .int 0, .int 0, .int 0, .int 0, .int 0, .int 0, .int (-1), .int (-1), .int 0, .int 0, .int 0, .ref (ma 8), .int 0, .int 0, .int (-1), .int 0, .int 0, .int 0, .ref (ma 9), .int 0, .int 0, .ref (ma 10), .ref (ma 11), .ref (ma 12), .int 0, .int 0]))] := hD
  subst hw
  refine lv_goto (tgt := 27) hx hb dX12_sweep_15 (by decide) ?_
  exact W.iret (v := (-1)) hx hb hr (fun t9 ht hW => ⟨⟨(-1), (), rfl, rfl, trivial⟩, hS.F ht⟩) hS.2.2 dX12_sweep_27
theorem dX12_shovel_0 : decode cX12_shovel 0 = .ok (.aload_n 0, 1) := by decide +kernel
theorem dX12_shovel_1 : decode cX12_shovel 1 = .ok (.iload_n 1, 1) := by decide +kernel
theorem dX12_shovel_2 : decode cX12_shovel 2 = .ok (.invokevirtual 251, 3) := by decide +kernel
theorem dX12_shovel_5 : decode cX12_shovel 5 = .ok (.ifCond .eq 28, 3) := by decide +kernel
theorem dX12_shovel_33 : decode cX12_shovel 33 = .ok (.aload_n 0, 1) := by decide +kernel
theorem dX12_shovel_34 : decode cX12_shovel 34 = .ok (.iconst 1, 1) := by decide +kernel
theorem dX12_shovel_35 : decode cX12_shovel 35 = .ok (.invokevirtual 72, 3) := by decide +kernel
theorem dX12_shovel_38 : decode cX12_shovel 38 = .ok (.ireturn, 1) := by decide +kernel
def vdq_shovel : List Cond := [.code yX12_shovel cX12_shovel 4 (some .int), .methodLink RX12 251 yX12_isHouse, .code yX12_isHouse cX12_isHouse 2 (some .boolean), .fieldLink RX12 7 "SaltStreetModel" "at" "[I", .instanceMethod yX12_isHouse, .selects RX12 yX12_isHouse yX12_isHouse, .initialized RX12, .methodLink RX12 72 yX12_refuse, .code yX12_refuse cX12_refuse 2 (some .int), .fieldLink RX12 66 "SaltStreetModel" "status" "I", .instanceMethod yX12_refuse, .selects RX12 yX12_refuse yX12_refuse]
def vq_shovel : List Cond := vdq_shovel ++ (wsX120 ++ ([] : List Cond))
theorem iq_shovel_X12 : ∀ w ∈ wsX120, w ∈ vq_shovel := fun _ h => List.mem_append_right _ (List.mem_append_left _ h)
set_option maxRecDepth 20000 in
theorem gq_shovel_251_m_isHouse : GoodIn vq_shovel (wsV RX12 251 RX12 yX12_isHouse vm_isHouse) := (goodIn_app (goodIn_r _ [1, 4, 5, 6] rfl (by decide +kernel)) (goodIn_app (goodIn_r vdm_isHouse [2, 3] rfl (by decide +kernel)) (goodIn_app (goodIn_sub iq_shovel_X12 gdX12) goodIn_nil)))
set_option maxRecDepth 20000 in
theorem gq_shovel_72_m_refuse : GoodIn vq_shovel (wsV RX12 72 RX12 yX12_refuse vm_refuse) := (goodIn_app (goodIn_r _ [7, 10, 11, 6] rfl (by decide +kernel)) (goodIn_app (goodIn_r vdm_refuse [8, 9] rfl (by decide +kernel)) (goodIn_app (goodIn_sub iq_shovel_X12 gdX12) goodIn_nil)))
set_option maxHeartbeats 4000000 in
set_option maxRecDepth 100000 in
theorem q_shovel (l : Launch) (D : va_G) (kc : Nat → ClassId) (sz : Nat) (ma : Nat → Nat) (a0 : Int32) (a1 : Int32) (a2 : Int32) : Met l yX12_shovel vq_shovel ({ frames := 1, cells := 0, slots := 0, locals := 21 }) (va_Pc [.ref (ma 0), .int a0, .int a1, .int a2] (wPre D kc [(ma 0, .inr (11, [.ref (ma 1), .ref (ma 2), .int 0, .long 0, .long 1, .ref (ma 3), .ref (ma 4), .ref (ma 5), .ref (ma 6), .ref (ma 7), .int 0, .int 0, .int 0, .int 0, .int 0, .int 0, .int (-1), .int (-1), .int 0, .int 0, .int 0, .ref (ma 8), .int 0, .int 0, .int (-1), .int 0, .int 0, .int 0, .ref (ma 9), .int 0, .int 0, .ref (ma 10), .ref (ma 11), .ref (ma 12), .int 0, .int 0])), (ma 1, .inl (kc 0, 2880, .inl at0))] sz)) (va_Qi (fun (r : Int32) (_ : Unit) => r = (-1)) wAny (va_A [(ma 0, .inr (11, [.ref (ma 1), .ref (ma 2), .int 0, .long 0, .long 1, .ref (ma 3), .ref (ma 4), .ref (ma 5), .ref (ma 6), .ref (ma 7), .int 0, .int 0, .int 0, .int 0, .int 0, .int 0, .int (-1), .int (-1), .int 0, .int 0, .int 0, .ref (ma 8), .int 0, .int 0, .int (-1), .int 0, .int 0, .int 0, .ref (ma 9), .int 0, .int 0, .ref (ma 10), .ref (ma 11), .ref (ma 12), .int 0, .int 0])), (ma 1, .inl (kc 0, 2880, .inl at0))] sz)) 0 0 (va_A [(ma 0, .inr (11, [.ref (ma 1), .ref (ma 2), .int 0, .long 0, .long 1, .ref (ma 3), .ref (ma 4), .ref (ma 5), .ref (ma 6), .ref (ma 7), .int 0, .int 0, .int 0, .int 0, .int 0, .int 0, .int (-1), .int (-1), .int 0, .int 0, .int 0, .ref (ma 8), .int 0, .int 0, .int (-1), .int 0, .int 0, .int 0, .ref (ma 9), .int 0, .int 0, .ref (ma 10), .ref (ma 11), .ref (ma 12), .int 0, .int 0])), (ma 1, .inl (kc 0, 2880, .inl at0))] sz) := by
  refine Met.ofW (cc := cX12_shovel) (maxL := 4) (ret := (some .int)) (by decide) rfl ?_
  intro p e s m args below meth c s₁ B hml hv
  obtain ⟨rfl, hsz, hP, hE, hD0⟩ := hv
  have hx := B.exec
  have hb := B.bytes
  have hr := B.returns
  have hts := atoms_spec (ws := vq_shovel) B.pre
  have hown : s.vm.findClass RX12 = some m.cls := findClass_of_methodNamed B.named
  have hlocks := B.notSynchronized
  subst hsz
  have hD := hD0.self (sz := s.heap.size)
  generalize hAe : va_A [(ma 0, .inr (11, [.ref (ma 1), .ref (ma 2), .int 0, .long 0, .long 1, .ref (ma 3), .ref (ma 4), .ref (ma 5), .ref (ma 6), .ref (ma 7), .int 0, .int 0, .int 0, .int 0, .int 0, .int 0, .int (-1), .int (-1), .int 0, .int 0, .int 0, .ref (ma 8), .int 0, .int 0, .int (-1), .int 0, .int 0, .int 0, .ref (ma 9), .int 0, .int 0, .ref (ma 10), .ref (ma 11), .ref (ma 12), .int 0, .int 0])), (ma 1, .inl (kc 0, 2880, .inl at0))] s.heap.size = A at hD ⊢
  have hA : ∀ q : Nat, s.heap.size ≤ q → A q := fun q h => by rw [← hAe]; exact Or.inr h
  have hS : va_S A s.heap s.heap [] := va_S.rf
  have hK := hE.1
  have hP : va_P D vwCl [(ma 0, .inr (11, [.ref (ma 1), .ref (ma 2), .int 0, .long 0, .long 1, .ref (ma 3), .ref (ma 4), .ref (ma 5), .ref (ma 6), .ref (ma 7), .int 0, .int 0, .int 0, .int 0, .int 0, .int 0, .int (-1), .int (-1), .int 0, .int 0, .int 0, .ref (ma 8), .int 0, .int 0, .int (-1), .int 0, .int 0, .int 0, .ref (ma 9), .int 0, .int 0, .ref (ma 10), .ref (ma 11), .ref (ma 12), .int 0, .int 0])), (ma 1, .inl (kc 0, 2880, .inl at0))] s.heap := hP
  have hl := lv_entry ([.ref (ma 0), .int a0, .int a1, .int a2]) (n := 4) (Nat.le_of_ble_eq_true rfl)
  rw [lg_entry_eq]
  generalize (lg_sl ([.ref (ma 0), .int a0, .int a1, .int a2]) ++ List.replicate (4 - (lg_sl ([.ref (ma 0), .int a0, .int a1, .int a2])).length) Slot.unset).toArray = ls at hl ⊢
  have hl : lv_has ls 4 [(0, .ref (ma 0)), (1, .int a0), (2, .int a1), (3, .int a2)] := hl
  refine lv_aload_n hx hb dX12_shovel_0 rfl (lv_at hl 0 rfl) ?_
  refine lv_iload_n hx hb dX12_shovel_1 rfl (lv_at hl 1 rfl) ?_
  have hPc := hP.sub (ws' := [(ma 0, .inr (11, [.ref (ma 1), .ref (ma 2), .int 0, .long 0, .long 1, .ref (ma 3), .ref (ma 4), .ref (ma 5), .ref (ma 6), .ref (ma 7), .int 0, .int 0, .int 0, .int 0, .int 0, .int 0, .int (-1), .int (-1), .int 0, .int 0, .int 0, .ref (ma 8), .int 0, .int 0, .int (-1), .int 0, .int 0, .int 0, .ref (ma 9), .int 0, .int 0, .ref (ma 10), .ref (ma 11), .ref (ma 12), .int 0, .int 0])), (ma 1, .inl (kc 0, 2880, .inl at0))]) [0, 1] rfl
  have hDc := hD.sub (ws' := [(ma 0, .inr (11, [.ref (ma 1), .ref (ma 2), .int 0, .long 0, .long 1, .ref (ma 3), .ref (ma 4), .ref (ma 5), .ref (ma 6), .ref (ma 7), .int 0, .int 0, .int 0, .int 0, .int 0, .int 0, .int (-1), .int (-1), .int 0, .int 0, .int 0, .ref (ma 8), .int 0, .int 0, .int (-1), .int 0, .int 0, .int 0, .ref (ma 9), .int 0, .int 0, .ref (ma 10), .ref (ma 11), .ref (ma 12), .int 0, .int 0])), (ma 1, .inl (kc 0, 2880, .inl at0))]) [0, 1] (by decide) rfl
  have hFc := va_free (wc := [(ma 0, .inr (11, [.ref (ma 1), .ref (ma 2), .int 0, .long 0, .long 1, .ref (ma 3), .ref (ma 4), .ref (ma 5), .ref (ma 6), .ref (ma 7), .int 0, .int 0, .int 0, .int 0, .int 0, .int 0, .int (-1), .int (-1), .int 0, .int 0, .int 0, .ref (ma 8), .int 0, .int 0, .int (-1), .int 0, .int 0, .int 0, .ref (ma 9), .int 0, .int 0, .ref (ma 10), .ref (ma 11), .ref (ma 12), .int 0, .int 0])), (ma 1, .inl (kc 0, 2880, .inl at0))]) hD hS hA [0, 1] rfl
  refine va_calli (va_runV (As := [.int a0]) (rest := []) ⟨hx, hb, hml, hown, hts⟩ (m_isHouse l D kc s.heap.size ma a0) (cwV 1 hts gq_shovel_251_m_isHouse rfl rfl rfl (by decide +kernel) ⟨Nat.le_of_ble_eq_true rfl, Nat.le_of_ble_eq_true rfl⟩) (preV_ok hPc hDc hE (ci := 11) (q0 := 0) rfl rfl) rfl rfl hl.1 rfl (lv_room (Nat.le_of_ble_eq_true rfl)) dX12_shovel_2 ⟨Nat.le_of_ble_eq_true rfl, Nat.le_of_ble_eq_true rfl⟩) hS (fun q _ h => hFc q h) hFc (fun r_2 u9 t9 H locs ht hvm hw hB hz1 hk1 hS => ?_)
  obtain ⟨hP1, hD1⟩ := hB
  rw [ht] at hP1
  obtain ⟨hP, hD⟩ := va_join (wr := []) (w1 := [(ma 0, .inr (11, [.ref (ma 1), .ref (ma 2), .int 0, .long 0, .long 1, .ref (ma 3), .ref (ma 4), .ref (ma 5), .ref (ma 6), .ref (ma 7), .int 0, .int 0, .int 0, .int 0, .int 0, .int 0, .int (-1), .int (-1), .int 0, .int 0, .int 0, .ref (ma 8), .int 0, .int 0, .int (-1), .int 0, .int 0, .int 0, .ref (ma 9), .int 0, .int 0, .ref (ma 10), .ref (ma 11), .ref (ma 12), .int 0, .int 0])), (ma 1, .inl (kc 0, 2880, .inl at0))]) hP hD [0, 1] [] rfl rfl (by decide) (by decide) hk1 hFc hP1 hD1
  have hP : va_P D vwCl [(ma 0, .inr (11, [.ref (ma 1), .ref (ma 2), .int 0, .long 0, .long 1, .ref (ma 3), .ref (ma 4), .ref (ma 5), .ref (ma 6), .ref (ma 7), .int 0, .int 0, .int 0, .int 0, .int 0, .int 0, .int (-1), .int (-1), .int 0, .int 0, .int 0, .ref (ma 8), .int 0, .int 0, .int (-1), .int 0, .int 0, .int 0, .ref (ma 9), .int 0, .int 0, .ref (ma 10), .ref (ma 11), .ref (ma 12), .int 0, .int 0])), (ma 1, .inl (kc 0, 2880, .inl at0))] H := hP
  have hD : va_D A [(ma 0, .inr (11, [.ref (ma 1), .ref (ma 2), .int 0, .long 0, .long 1, .ref (ma 3), .ref (ma 4), .ref (ma 5), .ref (ma 6), .ref (ma 7), .int 0, .int 0, .int 0, .int 0, .int 0, .int 0, .int (-1), .int (-1), .int 0, .int 0, .int 0, .ref (ma 8), .int 0, .int 0, .int (-1), .int 0, .int 0, .int 0, .ref (ma 9), .int 0, .int 0, .ref (ma 10), .ref (ma 11), .ref (ma 12), .int 0, .int 0])), (ma 1, .inl (kc 0, 2880, .inl at0))] := hD
  subst hw
  refine lv_if_eq (tgt := 33) hx hb dX12_shovel_5 (by decide) (fun _ => ?_) (fun h => absurd (by decide) h)
  refine lv_aload_n hx hb dX12_shovel_33 rfl (lv_at hl 0 rfl) ?_
  refine lv_iconst (v := 1) hx hb dX12_shovel_34 (by decide) ?_
  have hPc := hP.sub (ws' := [(ma 0, .inr (11, [.ref (ma 1), .ref (ma 2), .int 0, .long 0, .long 1, .ref (ma 3), .ref (ma 4), .ref (ma 5), .ref (ma 6), .ref (ma 7), .int 0, .int 0, .int 0, .int 0, .int 0, .int 0, .int (-1), .int (-1), .int 0, .int 0, .int 0, .ref (ma 8), .int 0, .int 0, .int (-1), .int 0, .int 0, .int 0, .ref (ma 9), .int 0, .int 0, .ref (ma 10), .ref (ma 11), .ref (ma 12), .int 0, .int 0]))]) [0] rfl
  have hDc := hD.sub (ws' := [(ma 0, .inr (11, [.ref (ma 1), .ref (ma 2), .int 0, .long 0, .long 1, .ref (ma 3), .ref (ma 4), .ref (ma 5), .ref (ma 6), .ref (ma 7), .int 0, .int 0, .int 0, .int 0, .int 0, .int 0, .int (-1), .int (-1), .int 0, .int 0, .int 0, .ref (ma 8), .int 0, .int 0, .int (-1), .int 0, .int 0, .int 0, .ref (ma 9), .int 0, .int 0, .ref (ma 10), .ref (ma 11), .ref (ma 12), .int 0, .int 0]))]) [0] (by decide) rfl
  have hFc := va_free (wc := [(ma 0, .inr (11, [.ref (ma 1), .ref (ma 2), .int 0, .long 0, .long 1, .ref (ma 3), .ref (ma 4), .ref (ma 5), .ref (ma 6), .ref (ma 7), .int 0, .int 0, .int 0, .int 0, .int 0, .int 0, .int (-1), .int (-1), .int 0, .int 0, .int 0, .ref (ma 8), .int 0, .int 0, .int (-1), .int 0, .int 0, .int 0, .ref (ma 9), .int 0, .int 0, .ref (ma 10), .ref (ma 11), .ref (ma 12), .int 0, .int 0]))]) hD hS hA [0] rfl
  refine va_calli (va_runV (As := [.int 1]) (rest := []) ⟨hx, hb, hml, hown, hts⟩ (m_refuse l D kc H.size ma 0 0 1 0 0 0 0 0 0 (-1) (-1) 0 0 0 0 0 (-1) 0 0 0 0 0 0 0 1) (cwV 1 hts gq_shovel_72_m_refuse rfl rfl rfl (by decide +kernel) ⟨Nat.le_of_ble_eq_true rfl, Nat.le_of_ble_eq_true rfl⟩) (preV_ok hPc hDc hE (ci := 11) (q0 := 0) rfl rfl) rfl rfl hl.1 rfl (lv_room (Nat.le_of_ble_eq_true rfl)) dX12_shovel_35 ⟨Nat.le_of_ble_eq_true rfl, Nat.le_of_ble_eq_true rfl⟩) hS (fun q _ h => hFc q h) hFc (fun r_35 u9 t9 H locs ht hvm hw hB hz1 hk1 hS => ?_)
  obtain ⟨hP1, hD1⟩ := hB
  rw [ht] at hP1
  obtain ⟨hP, hD⟩ := va_join (wr := [(ma 1, .inl (kc 0, 2880, .inl at0))]) (w1 := [(ma 0, .inr (11, [.ref (ma 1), .ref (ma 2), .int 1, .long 0, .long 1, .ref (ma 3), .ref (ma 4), .ref (ma 5), .ref (ma 6), .ref (ma 7), .int 0, .int 0, .int 0, .int 0, .int 0, .int 0, .int (-1), .int (-1), .int 0, .int 0, .int 0, .ref (ma 8), .int 0, .int 0, .int (-1), .int 0, .int 0, .int 0, .ref (ma 9), .int 0, .int 0, .ref (ma 10), .ref (ma 11), .ref (ma 12), .int 0, .int 0]))]) hP hD [0] [1] rfl rfl (by decide) (by decide) hk1 hFc hP1 hD1
  have hP : va_P D vwCl [(ma 1, .inl (kc 0, 2880, .inl at0)), (ma 0, .inr (11, [.ref (ma 1), .ref (ma 2), .int 1, .long 0, .long 1, .ref (ma 3), .ref (ma 4), .ref (ma 5), .ref (ma 6), .ref (ma 7), .int 0, .int 0, .int 0, .int 0, .int 0, .int 0, .int (-1), .int (-1), .int 0, .int 0, .int 0, .ref (ma 8), .int 0, .int 0, .int (-1), .int 0, .int 0, .int 0, .ref (ma 9), .int 0, .int 0, .ref (ma 10), .ref (ma 11), .ref (ma 12), .int 0, .int 0]))] H := hP
  have hD : va_D A [(ma 1, .inl (kc 0, 2880, .inl at0)), (ma 0, .inr (11, [.ref (ma 1), .ref (ma 2), .int 1, .long 0, .long 1, .ref (ma 3), .ref (ma 4), .ref (ma 5), .ref (ma 6), .ref (ma 7), .int 0, .int 0, .int 0, .int 0, .int 0, .int 0, .int (-1), .int (-1), .int 0, .int 0, .int 0, .ref (ma 8), .int 0, .int 0, .int (-1), .int 0, .int 0, .int 0, .ref (ma 9), .int 0, .int 0, .ref (ma 10), .ref (ma 11), .ref (ma 12), .int 0, .int 0]))] := hD
  subst hw
  exact W.iret (v := (-1)) hx hb hr (fun t9 ht hW => ⟨⟨(-1), (), rfl, rfl, trivial⟩, hS.F ht⟩) hS.2.2 dX12_shovel_38
theorem dX12_reaches_0 : decode cX12_reaches 0 = .ok (.aload_n 0, 1) := by decide +kernel
theorem dX12_reaches_1 : decode cX12_reaches 1 = .ok (.iload_n 1, 1) := by decide +kernel
theorem dX12_reaches_2 : decode cX12_reaches 2 = .ok (.invokevirtual 263, 3) := by decide +kernel
theorem dX12_reaches_5 : decode cX12_reaches 5 = .ok (.istore_n 2, 1) := by decide +kernel
theorem dX12_reaches_6 : decode cX12_reaches 6 = .ok (.iload_n 2, 1) := by decide +kernel
theorem dX12_reaches_7 : decode cX12_reaches 7 = .ok (.ifCond .le 9, 3) := by decide +kernel
theorem dX12_reaches_10 : decode cX12_reaches 10 = .ok (.aload_n 0, 1) := by decide +kernel
theorem dX12_reaches_11 : decode cX12_reaches 11 = .ok (.iload_n 2, 1) := by decide +kernel
theorem dX12_reaches_12 : decode cX12_reaches 12 = .ok (.invokevirtual 72, 3) := by decide +kernel
theorem dX12_reaches_15 : decode cX12_reaches 15 = .ok (.ireturn, 1) := by decide +kernel
def vdq_reaches : List Cond := [.code yX12_reaches cX12_reaches 6 (some .int), .methodLink RX12 263 yX12_wrongStep, .code yX12_wrongStep cX12_wrongStep 2 (some .int), .methodLink RX12 251 yX12_isHouse, .code yX12_isHouse cX12_isHouse 2 (some .boolean), .fieldLink RX12 7 "SaltStreetModel" "at" "[I", .instanceMethod yX12_isHouse, .selects RX12 yX12_isHouse yX12_isHouse, .initialized RX12, .instanceMethod yX12_wrongStep, .selects RX12 yX12_wrongStep yX12_wrongStep, .methodLink RX12 72 yX12_refuse, .code yX12_refuse cX12_refuse 2 (some .int), .fieldLink RX12 66 "SaltStreetModel" "status" "I", .instanceMethod yX12_refuse, .selects RX12 yX12_refuse yX12_refuse]
def vq_reaches : List Cond := vdq_reaches ++ (wsX120 ++ ([] : List Cond))
theorem iq_reaches_X12 : ∀ w ∈ wsX120, w ∈ vq_reaches := fun _ h => List.mem_append_right _ (List.mem_append_left _ h)
set_option maxRecDepth 20000 in
theorem gq_reaches_263_m_wrongStep : GoodIn vq_reaches (wsV RX12 263 RX12 yX12_wrongStep vm_wrongStep) := (goodIn_app (goodIn_r _ [1, 9, 10, 8] rfl (by decide +kernel)) (goodIn_app (goodIn_r vdm_wrongStep [2, 3, 4, 5, 6, 7, 8] rfl (by decide +kernel)) (goodIn_app (goodIn_sub iq_reaches_X12 gdX12) goodIn_nil)))
set_option maxRecDepth 20000 in
theorem gq_reaches_72_m_refuse : GoodIn vq_reaches (wsV RX12 72 RX12 yX12_refuse vm_refuse) := (goodIn_app (goodIn_r _ [11, 14, 15, 8] rfl (by decide +kernel)) (goodIn_app (goodIn_r vdm_refuse [12, 13] rfl (by decide +kernel)) (goodIn_app (goodIn_sub iq_reaches_X12 gdX12) goodIn_nil)))
set_option maxHeartbeats 4000000 in
set_option maxRecDepth 100000 in
theorem q_reaches (l : Launch) (D : va_G) (kc : Nat → ClassId) (sz : Nat) (ma : Nat → Nat) (a0 : Int32) : Met l yX12_reaches vq_reaches ({ frames := 2, cells := 0, slots := 0, locals := 42 }) (va_Pc [.ref (ma 0), .int a0] (wPre D kc [(ma 0, .inr (11, [.ref (ma 1), .ref (ma 2), .int 0, .long 0, .long 1, .ref (ma 3), .ref (ma 4), .ref (ma 5), .ref (ma 6), .ref (ma 7), .int 0, .int 0, .int 0, .int 0, .int 0, .int 0, .int (-1), .int (-1), .int 0, .int 0, .int 0, .ref (ma 8), .int 0, .int 0, .int (-1), .int 0, .int 0, .int 0, .ref (ma 9), .int 0, .int 0, .ref (ma 10), .ref (ma 11), .ref (ma 12), .int 0, .int 0])), (ma 1, .inl (kc 0, 2880, .inl at0))] sz)) (va_Qi (fun (r : Int32) (_ : Unit) => r = (-1)) wAny (va_A [(ma 0, .inr (11, [.ref (ma 1), .ref (ma 2), .int 0, .long 0, .long 1, .ref (ma 3), .ref (ma 4), .ref (ma 5), .ref (ma 6), .ref (ma 7), .int 0, .int 0, .int 0, .int 0, .int 0, .int 0, .int (-1), .int (-1), .int 0, .int 0, .int 0, .ref (ma 8), .int 0, .int 0, .int (-1), .int 0, .int 0, .int 0, .ref (ma 9), .int 0, .int 0, .ref (ma 10), .ref (ma 11), .ref (ma 12), .int 0, .int 0])), (ma 1, .inl (kc 0, 2880, .inl at0))] sz)) 0 0 (va_A [(ma 0, .inr (11, [.ref (ma 1), .ref (ma 2), .int 0, .long 0, .long 1, .ref (ma 3), .ref (ma 4), .ref (ma 5), .ref (ma 6), .ref (ma 7), .int 0, .int 0, .int 0, .int 0, .int 0, .int 0, .int (-1), .int (-1), .int 0, .int 0, .int 0, .ref (ma 8), .int 0, .int 0, .int (-1), .int 0, .int 0, .int 0, .ref (ma 9), .int 0, .int 0, .ref (ma 10), .ref (ma 11), .ref (ma 12), .int 0, .int 0])), (ma 1, .inl (kc 0, 2880, .inl at0))] sz) := by
  refine Met.ofW (cc := cX12_reaches) (maxL := 6) (ret := (some .int)) (by decide) rfl ?_
  intro p e s m args below meth c s₁ B hml hv
  obtain ⟨rfl, hsz, hP, hE, hD0⟩ := hv
  have hx := B.exec
  have hb := B.bytes
  have hr := B.returns
  have hts := atoms_spec (ws := vq_reaches) B.pre
  have hown : s.vm.findClass RX12 = some m.cls := findClass_of_methodNamed B.named
  have hlocks := B.notSynchronized
  subst hsz
  have hD := hD0.self (sz := s.heap.size)
  generalize hAe : va_A [(ma 0, .inr (11, [.ref (ma 1), .ref (ma 2), .int 0, .long 0, .long 1, .ref (ma 3), .ref (ma 4), .ref (ma 5), .ref (ma 6), .ref (ma 7), .int 0, .int 0, .int 0, .int 0, .int 0, .int 0, .int (-1), .int (-1), .int 0, .int 0, .int 0, .ref (ma 8), .int 0, .int 0, .int (-1), .int 0, .int 0, .int 0, .ref (ma 9), .int 0, .int 0, .ref (ma 10), .ref (ma 11), .ref (ma 12), .int 0, .int 0])), (ma 1, .inl (kc 0, 2880, .inl at0))] s.heap.size = A at hD ⊢
  have hA : ∀ q : Nat, s.heap.size ≤ q → A q := fun q h => by rw [← hAe]; exact Or.inr h
  have hS : va_S A s.heap s.heap [] := va_S.rf
  have hK := hE.1
  have hP : va_P D vwCl [(ma 0, .inr (11, [.ref (ma 1), .ref (ma 2), .int 0, .long 0, .long 1, .ref (ma 3), .ref (ma 4), .ref (ma 5), .ref (ma 6), .ref (ma 7), .int 0, .int 0, .int 0, .int 0, .int 0, .int 0, .int (-1), .int (-1), .int 0, .int 0, .int 0, .ref (ma 8), .int 0, .int 0, .int (-1), .int 0, .int 0, .int 0, .ref (ma 9), .int 0, .int 0, .ref (ma 10), .ref (ma 11), .ref (ma 12), .int 0, .int 0])), (ma 1, .inl (kc 0, 2880, .inl at0))] s.heap := hP
  have hl := lv_entry ([.ref (ma 0), .int a0]) (n := 6) (Nat.le_of_ble_eq_true rfl)
  rw [lg_entry_eq]
  generalize (lg_sl ([.ref (ma 0), .int a0]) ++ List.replicate (6 - (lg_sl ([.ref (ma 0), .int a0])).length) Slot.unset).toArray = ls at hl ⊢
  have hl : lv_has ls 6 [(0, .ref (ma 0)), (1, .int a0)] := hl
  refine lv_aload_n hx hb dX12_reaches_0 rfl (lv_at hl 0 rfl) ?_
  refine lv_iload_n hx hb dX12_reaches_1 rfl (lv_at hl 1 rfl) ?_
  have hPc := hP.sub (ws' := [(ma 0, .inr (11, [.ref (ma 1), .ref (ma 2), .int 0, .long 0, .long 1, .ref (ma 3), .ref (ma 4), .ref (ma 5), .ref (ma 6), .ref (ma 7), .int 0, .int 0, .int 0, .int 0, .int 0, .int 0, .int (-1), .int (-1), .int 0, .int 0, .int 0, .ref (ma 8), .int 0, .int 0, .int (-1), .int 0, .int 0, .int 0, .ref (ma 9), .int 0, .int 0, .ref (ma 10), .ref (ma 11), .ref (ma 12), .int 0, .int 0])), (ma 1, .inl (kc 0, 2880, .inl at0))]) [0, 1] rfl
  have hDc := hD.sub (ws' := [(ma 0, .inr (11, [.ref (ma 1), .ref (ma 2), .int 0, .long 0, .long 1, .ref (ma 3), .ref (ma 4), .ref (ma 5), .ref (ma 6), .ref (ma 7), .int 0, .int 0, .int 0, .int 0, .int 0, .int 0, .int (-1), .int (-1), .int 0, .int 0, .int 0, .ref (ma 8), .int 0, .int 0, .int (-1), .int 0, .int 0, .int 0, .ref (ma 9), .int 0, .int 0, .ref (ma 10), .ref (ma 11), .ref (ma 12), .int 0, .int 0])), (ma 1, .inl (kc 0, 2880, .inl at0))]) [0, 1] (by decide) rfl
  have hFc := va_free (wc := [(ma 0, .inr (11, [.ref (ma 1), .ref (ma 2), .int 0, .long 0, .long 1, .ref (ma 3), .ref (ma 4), .ref (ma 5), .ref (ma 6), .ref (ma 7), .int 0, .int 0, .int 0, .int 0, .int 0, .int 0, .int (-1), .int (-1), .int 0, .int 0, .int 0, .ref (ma 8), .int 0, .int 0, .int (-1), .int 0, .int 0, .int 0, .ref (ma 9), .int 0, .int 0, .ref (ma 10), .ref (ma 11), .ref (ma 12), .int 0, .int 0])), (ma 1, .inl (kc 0, 2880, .inl at0))]) hD hS hA [0, 1] rfl
  refine va_calli (va_runV (As := [.int a0]) (rest := []) ⟨hx, hb, hml, hown, hts⟩ (m_wrongStep l D kc s.heap.size ma a0) (cwV 1 hts gq_reaches_263_m_wrongStep rfl rfl rfl (by decide +kernel) ⟨Nat.le_of_ble_eq_true rfl, Nat.le_of_ble_eq_true rfl⟩) (preV_ok hPc hDc hE (ci := 11) (q0 := 0) rfl rfl) rfl rfl hl.1 rfl (lv_room (Nat.le_of_ble_eq_true rfl)) dX12_reaches_2 ⟨Nat.le_of_ble_eq_true rfl, Nat.le_of_ble_eq_true rfl⟩) hS (fun q _ h => hFc q h) hFc (fun r_2 u9 t9 H locs ht hvm hw hB hz1 hk1 hS => ?_)
  obtain ⟨hP1, hD1⟩ := hB
  rw [ht] at hP1
  obtain ⟨hP, hD⟩ := va_join (wr := []) (w1 := [(ma 0, .inr (11, [.ref (ma 1), .ref (ma 2), .int 0, .long 0, .long 1, .ref (ma 3), .ref (ma 4), .ref (ma 5), .ref (ma 6), .ref (ma 7), .int 0, .int 0, .int 0, .int 0, .int 0, .int 0, .int (-1), .int (-1), .int 0, .int 0, .int 0, .ref (ma 8), .int 0, .int 0, .int (-1), .int 0, .int 0, .int 0, .ref (ma 9), .int 0, .int 0, .ref (ma 10), .ref (ma 11), .ref (ma 12), .int 0, .int 0])), (ma 1, .inl (kc 0, 2880, .inl at0))]) hP hD [0, 1] [] rfl rfl (by decide) (by decide) hk1 hFc hP1 hD1
  have hP : va_P D vwCl [(ma 0, .inr (11, [.ref (ma 1), .ref (ma 2), .int 0, .long 0, .long 1, .ref (ma 3), .ref (ma 4), .ref (ma 5), .ref (ma 6), .ref (ma 7), .int 0, .int 0, .int 0, .int 0, .int 0, .int 0, .int (-1), .int (-1), .int 0, .int 0, .int 0, .ref (ma 8), .int 0, .int 0, .int (-1), .int 0, .int 0, .int 0, .ref (ma 9), .int 0, .int 0, .ref (ma 10), .ref (ma 11), .ref (ma 12), .int 0, .int 0])), (ma 1, .inl (kc 0, 2880, .inl at0))] H := hP
  have hD : va_D A [(ma 0, .inr (11, [.ref (ma 1), .ref (ma 2), .int 0, .long 0, .long 1, .ref (ma 3), .ref (ma 4), .ref (ma 5), .ref (ma 6), .ref (ma 7), .int 0, .int 0, .int 0, .int 0, .int 0, .int 0, .int (-1), .int (-1), .int 0, .int 0, .int 0, .ref (ma 8), .int 0, .int 0, .int (-1), .int 0, .int 0, .int 0, .ref (ma 9), .int 0, .int 0, .ref (ma 10), .ref (ma 11), .ref (ma 12), .int 0, .int 0])), (ma 1, .inl (kc 0, 2880, .inl at0))] := hD
  subst hw
  refine lv_istore_n (lv' := [(2, .int 1), (0, .ref (ma 0)), (1, .int a0)]) hx hb dX12_reaches_5 rfl hl (by decide) rfl (fun ls hl => ?_)
  refine lv_iload_n hx hb dX12_reaches_6 rfl (lv_at hl 0 rfl) ?_
  refine lv_if_le (tgt := 16) hx hb dX12_reaches_7 (by decide) (fun h => absurd h (by decide)) (fun _ => ?_)
  refine lv_aload_n hx hb dX12_reaches_10 rfl (lv_at hl 1 rfl) ?_
  refine lv_iload_n hx hb dX12_reaches_11 rfl (lv_at hl 0 rfl) ?_
  have hPc := hP.sub (ws' := [(ma 0, .inr (11, [.ref (ma 1), .ref (ma 2), .int 0, .long 0, .long 1, .ref (ma 3), .ref (ma 4), .ref (ma 5), .ref (ma 6), .ref (ma 7), .int 0, .int 0, .int 0, .int 0, .int 0, .int 0, .int (-1), .int (-1), .int 0, .int 0, .int 0, .ref (ma 8), .int 0, .int 0, .int (-1), .int 0, .int 0, .int 0, .ref (ma 9), .int 0, .int 0, .ref (ma 10), .ref (ma 11), .ref (ma 12), .int 0, .int 0]))]) [0] rfl
  have hDc := hD.sub (ws' := [(ma 0, .inr (11, [.ref (ma 1), .ref (ma 2), .int 0, .long 0, .long 1, .ref (ma 3), .ref (ma 4), .ref (ma 5), .ref (ma 6), .ref (ma 7), .int 0, .int 0, .int 0, .int 0, .int 0, .int 0, .int (-1), .int (-1), .int 0, .int 0, .int 0, .ref (ma 8), .int 0, .int 0, .int (-1), .int 0, .int 0, .int 0, .ref (ma 9), .int 0, .int 0, .ref (ma 10), .ref (ma 11), .ref (ma 12), .int 0, .int 0]))]) [0] (by decide) rfl
  have hFc := va_free (wc := [(ma 0, .inr (11, [.ref (ma 1), .ref (ma 2), .int 0, .long 0, .long 1, .ref (ma 3), .ref (ma 4), .ref (ma 5), .ref (ma 6), .ref (ma 7), .int 0, .int 0, .int 0, .int 0, .int 0, .int 0, .int (-1), .int (-1), .int 0, .int 0, .int 0, .ref (ma 8), .int 0, .int 0, .int (-1), .int 0, .int 0, .int 0, .ref (ma 9), .int 0, .int 0, .ref (ma 10), .ref (ma 11), .ref (ma 12), .int 0, .int 0]))]) hD hS hA [0] rfl
  refine va_calli (va_runV (As := [.int 1]) (rest := []) ⟨hx, hb, hml, hown, hts⟩ (m_refuse l D kc H.size ma 0 0 1 0 0 0 0 0 0 (-1) (-1) 0 0 0 0 0 (-1) 0 0 0 0 0 0 0 1) (cwV 1 hts gq_reaches_72_m_refuse rfl rfl rfl (by decide +kernel) ⟨Nat.le_of_ble_eq_true rfl, Nat.le_of_ble_eq_true rfl⟩) (preV_ok hPc hDc hE (ci := 11) (q0 := 0) rfl rfl) rfl rfl hl.1 rfl (lv_room (Nat.le_of_ble_eq_true rfl)) dX12_reaches_12 ⟨Nat.le_of_ble_eq_true rfl, Nat.le_of_ble_eq_true rfl⟩) hS (fun q _ h => hFc q h) hFc (fun r_12 u9 t9 H locs ht hvm hw hB hz1 hk1 hS => ?_)
  obtain ⟨hP1, hD1⟩ := hB
  rw [ht] at hP1
  obtain ⟨hP, hD⟩ := va_join (wr := [(ma 1, .inl (kc 0, 2880, .inl at0))]) (w1 := [(ma 0, .inr (11, [.ref (ma 1), .ref (ma 2), .int 1, .long 0, .long 1, .ref (ma 3), .ref (ma 4), .ref (ma 5), .ref (ma 6), .ref (ma 7), .int 0, .int 0, .int 0, .int 0, .int 0, .int 0, .int (-1), .int (-1), .int 0, .int 0, .int 0, .ref (ma 8), .int 0, .int 0, .int (-1), .int 0, .int 0, .int 0, .ref (ma 9), .int 0, .int 0, .ref (ma 10), .ref (ma 11), .ref (ma 12), .int 0, .int 0]))]) hP hD [0] [1] rfl rfl (by decide) (by decide) hk1 hFc hP1 hD1
  have hP : va_P D vwCl [(ma 1, .inl (kc 0, 2880, .inl at0)), (ma 0, .inr (11, [.ref (ma 1), .ref (ma 2), .int 1, .long 0, .long 1, .ref (ma 3), .ref (ma 4), .ref (ma 5), .ref (ma 6), .ref (ma 7), .int 0, .int 0, .int 0, .int 0, .int 0, .int 0, .int (-1), .int (-1), .int 0, .int 0, .int 0, .ref (ma 8), .int 0, .int 0, .int (-1), .int 0, .int 0, .int 0, .ref (ma 9), .int 0, .int 0, .ref (ma 10), .ref (ma 11), .ref (ma 12), .int 0, .int 0]))] H := hP
  have hD : va_D A [(ma 1, .inl (kc 0, 2880, .inl at0)), (ma 0, .inr (11, [.ref (ma 1), .ref (ma 2), .int 1, .long 0, .long 1, .ref (ma 3), .ref (ma 4), .ref (ma 5), .ref (ma 6), .ref (ma 7), .int 0, .int 0, .int 0, .int 0, .int 0, .int 0, .int (-1), .int (-1), .int 0, .int 0, .int 0, .ref (ma 8), .int 0, .int 0, .int (-1), .int 0, .int 0, .int 0, .ref (ma 9), .int 0, .int 0, .ref (ma 10), .ref (ma 11), .ref (ma 12), .int 0, .int 0]))] := hD
  subst hw
  exact W.iret (v := (-1)) hx hb hr (fun t9 ht hW => ⟨⟨(-1), (), rfl, rfl, trivial⟩, hS.F ht⟩) hS.2.2 dX12_reaches_15
theorem dX12_chain_0 : decode cX12_chain 0 = .ok (.aload_n 0, 1) := by decide +kernel
theorem dX12_chain_1 : decode cX12_chain 1 = .ok (.iload_n 1, 1) := by decide +kernel
theorem dX12_chain_2 : decode cX12_chain 2 = .ok (.invokevirtual 269, 3) := by decide +kernel
theorem dX12_chain_5 : decode cX12_chain 5 = .ok (.ifCond .ne 9, 3) := by decide +kernel
theorem dX12_chain_8 : decode cX12_chain 8 = .ok (.aload_n 0, 1) := by decide +kernel
theorem dX12_chain_9 : decode cX12_chain 9 = .ok (.iconst 1, 1) := by decide +kernel
theorem dX12_chain_10 : decode cX12_chain 10 = .ok (.invokevirtual 72, 3) := by decide +kernel
theorem dX12_chain_13 : decode cX12_chain 13 = .ok (.ireturn, 1) := by decide +kernel
def vdq_chain : List Cond := [.code yX12_chain cX12_chain 6 (some .int), .methodLink RX12 269 yX12_isQuarrel, .code yX12_isQuarrel cX12_isQuarrel 2 (some .boolean), .fieldLink RX12 7 "SaltStreetModel" "at" "[I", .instanceMethod yX12_isQuarrel, .selects RX12 yX12_isQuarrel yX12_isQuarrel, .initialized RX12, .methodLink RX12 72 yX12_refuse, .code yX12_refuse cX12_refuse 2 (some .int), .fieldLink RX12 66 "SaltStreetModel" "status" "I", .instanceMethod yX12_refuse, .selects RX12 yX12_refuse yX12_refuse]
def vq_chain : List Cond := vdq_chain ++ (wsX120 ++ ([] : List Cond))
theorem iq_chain_X12 : ∀ w ∈ wsX120, w ∈ vq_chain := fun _ h => List.mem_append_right _ (List.mem_append_left _ h)
set_option maxRecDepth 20000 in
theorem gq_chain_269_m_isQuarrel : GoodIn vq_chain (wsV RX12 269 RX12 yX12_isQuarrel vm_isQuarrel) := (goodIn_app (goodIn_r _ [1, 4, 5, 6] rfl (by decide +kernel)) (goodIn_app (goodIn_r vdm_isQuarrel [2, 3] rfl (by decide +kernel)) (goodIn_app (goodIn_sub iq_chain_X12 gdX12) goodIn_nil)))
set_option maxRecDepth 20000 in
theorem gq_chain_72_m_refuse : GoodIn vq_chain (wsV RX12 72 RX12 yX12_refuse vm_refuse) := (goodIn_app (goodIn_r _ [7, 10, 11, 6] rfl (by decide +kernel)) (goodIn_app (goodIn_r vdm_refuse [8, 9] rfl (by decide +kernel)) (goodIn_app (goodIn_sub iq_chain_X12 gdX12) goodIn_nil)))
set_option maxHeartbeats 4000000 in
set_option maxRecDepth 100000 in
theorem q_chain (l : Launch) (D : va_G) (kc : Nat → ClassId) (sz : Nat) (ma : Nat → Nat) (a0 : Int32) : Met l yX12_chain vq_chain ({ frames := 1, cells := 0, slots := 0, locals := 21 }) (va_Pc [.ref (ma 0), .int a0] (wPre D kc [(ma 0, .inr (11, [.ref (ma 1), .ref (ma 2), .int 0, .long 0, .long 1, .ref (ma 3), .ref (ma 4), .ref (ma 5), .ref (ma 6), .ref (ma 7), .int 0, .int 0, .int 0, .int 0, .int 0, .int 0, .int (-1), .int (-1), .int 0, .int 0, .int 0, .ref (ma 8), .int 0, .int 0, .int (-1), .int 0, .int 0, .int 0, .ref (ma 9), .int 0, .int 0, .ref (ma 10), .ref (ma 11), .ref (ma 12), .int 0, .int 0])), (ma 1, .inl (kc 0, 2880, .inl at0))] sz)) (va_Qi (fun (r : Int32) (_ : Unit) => r = (-1)) wAny (va_A [(ma 0, .inr (11, [.ref (ma 1), .ref (ma 2), .int 0, .long 0, .long 1, .ref (ma 3), .ref (ma 4), .ref (ma 5), .ref (ma 6), .ref (ma 7), .int 0, .int 0, .int 0, .int 0, .int 0, .int 0, .int (-1), .int (-1), .int 0, .int 0, .int 0, .ref (ma 8), .int 0, .int 0, .int (-1), .int 0, .int 0, .int 0, .ref (ma 9), .int 0, .int 0, .ref (ma 10), .ref (ma 11), .ref (ma 12), .int 0, .int 0])), (ma 1, .inl (kc 0, 2880, .inl at0))] sz)) 0 0 (va_A [(ma 0, .inr (11, [.ref (ma 1), .ref (ma 2), .int 0, .long 0, .long 1, .ref (ma 3), .ref (ma 4), .ref (ma 5), .ref (ma 6), .ref (ma 7), .int 0, .int 0, .int 0, .int 0, .int 0, .int 0, .int (-1), .int (-1), .int 0, .int 0, .int 0, .ref (ma 8), .int 0, .int 0, .int (-1), .int 0, .int 0, .int 0, .ref (ma 9), .int 0, .int 0, .ref (ma 10), .ref (ma 11), .ref (ma 12), .int 0, .int 0])), (ma 1, .inl (kc 0, 2880, .inl at0))] sz) := by
  refine Met.ofW (cc := cX12_chain) (maxL := 6) (ret := (some .int)) (by decide) rfl ?_
  intro p e s m args below meth c s₁ B hml hv
  obtain ⟨rfl, hsz, hP, hE, hD0⟩ := hv
  have hx := B.exec
  have hb := B.bytes
  have hr := B.returns
  have hts := atoms_spec (ws := vq_chain) B.pre
  have hown : s.vm.findClass RX12 = some m.cls := findClass_of_methodNamed B.named
  have hlocks := B.notSynchronized
  subst hsz
  have hD := hD0.self (sz := s.heap.size)
  generalize hAe : va_A [(ma 0, .inr (11, [.ref (ma 1), .ref (ma 2), .int 0, .long 0, .long 1, .ref (ma 3), .ref (ma 4), .ref (ma 5), .ref (ma 6), .ref (ma 7), .int 0, .int 0, .int 0, .int 0, .int 0, .int 0, .int (-1), .int (-1), .int 0, .int 0, .int 0, .ref (ma 8), .int 0, .int 0, .int (-1), .int 0, .int 0, .int 0, .ref (ma 9), .int 0, .int 0, .ref (ma 10), .ref (ma 11), .ref (ma 12), .int 0, .int 0])), (ma 1, .inl (kc 0, 2880, .inl at0))] s.heap.size = A at hD ⊢
  have hA : ∀ q : Nat, s.heap.size ≤ q → A q := fun q h => by rw [← hAe]; exact Or.inr h
  have hS : va_S A s.heap s.heap [] := va_S.rf
  have hK := hE.1
  have hP : va_P D vwCl [(ma 0, .inr (11, [.ref (ma 1), .ref (ma 2), .int 0, .long 0, .long 1, .ref (ma 3), .ref (ma 4), .ref (ma 5), .ref (ma 6), .ref (ma 7), .int 0, .int 0, .int 0, .int 0, .int 0, .int 0, .int (-1), .int (-1), .int 0, .int 0, .int 0, .ref (ma 8), .int 0, .int 0, .int (-1), .int 0, .int 0, .int 0, .ref (ma 9), .int 0, .int 0, .ref (ma 10), .ref (ma 11), .ref (ma 12), .int 0, .int 0])), (ma 1, .inl (kc 0, 2880, .inl at0))] s.heap := hP
  have hl := lv_entry ([.ref (ma 0), .int a0]) (n := 6) (Nat.le_of_ble_eq_true rfl)
  rw [lg_entry_eq]
  generalize (lg_sl ([.ref (ma 0), .int a0]) ++ List.replicate (6 - (lg_sl ([.ref (ma 0), .int a0])).length) Slot.unset).toArray = ls at hl ⊢
  have hl : lv_has ls 6 [(0, .ref (ma 0)), (1, .int a0)] := hl
  refine lv_aload_n hx hb dX12_chain_0 rfl (lv_at hl 0 rfl) ?_
  refine lv_iload_n hx hb dX12_chain_1 rfl (lv_at hl 1 rfl) ?_
  have hPc := hP.sub (ws' := [(ma 0, .inr (11, [.ref (ma 1), .ref (ma 2), .int 0, .long 0, .long 1, .ref (ma 3), .ref (ma 4), .ref (ma 5), .ref (ma 6), .ref (ma 7), .int 0, .int 0, .int 0, .int 0, .int 0, .int 0, .int (-1), .int (-1), .int 0, .int 0, .int 0, .ref (ma 8), .int 0, .int 0, .int (-1), .int 0, .int 0, .int 0, .ref (ma 9), .int 0, .int 0, .ref (ma 10), .ref (ma 11), .ref (ma 12), .int 0, .int 0])), (ma 1, .inl (kc 0, 2880, .inl at0))]) [0, 1] rfl
  have hDc := hD.sub (ws' := [(ma 0, .inr (11, [.ref (ma 1), .ref (ma 2), .int 0, .long 0, .long 1, .ref (ma 3), .ref (ma 4), .ref (ma 5), .ref (ma 6), .ref (ma 7), .int 0, .int 0, .int 0, .int 0, .int 0, .int 0, .int (-1), .int (-1), .int 0, .int 0, .int 0, .ref (ma 8), .int 0, .int 0, .int (-1), .int 0, .int 0, .int 0, .ref (ma 9), .int 0, .int 0, .ref (ma 10), .ref (ma 11), .ref (ma 12), .int 0, .int 0])), (ma 1, .inl (kc 0, 2880, .inl at0))]) [0, 1] (by decide) rfl
  have hFc := va_free (wc := [(ma 0, .inr (11, [.ref (ma 1), .ref (ma 2), .int 0, .long 0, .long 1, .ref (ma 3), .ref (ma 4), .ref (ma 5), .ref (ma 6), .ref (ma 7), .int 0, .int 0, .int 0, .int 0, .int 0, .int 0, .int (-1), .int (-1), .int 0, .int 0, .int 0, .ref (ma 8), .int 0, .int 0, .int (-1), .int 0, .int 0, .int 0, .ref (ma 9), .int 0, .int 0, .ref (ma 10), .ref (ma 11), .ref (ma 12), .int 0, .int 0])), (ma 1, .inl (kc 0, 2880, .inl at0))]) hD hS hA [0, 1] rfl
  refine va_calli (va_runV (As := [.int a0]) (rest := []) ⟨hx, hb, hml, hown, hts⟩ (m_isQuarrel l D kc s.heap.size ma a0) (cwV 1 hts gq_chain_269_m_isQuarrel rfl rfl rfl (by decide +kernel) ⟨Nat.le_of_ble_eq_true rfl, Nat.le_of_ble_eq_true rfl⟩) (preV_ok hPc hDc hE (ci := 11) (q0 := 0) rfl rfl) rfl rfl hl.1 rfl (lv_room (Nat.le_of_ble_eq_true rfl)) dX12_chain_2 ⟨Nat.le_of_ble_eq_true rfl, Nat.le_of_ble_eq_true rfl⟩) hS (fun q _ h => hFc q h) hFc (fun r_2 u9 t9 H locs ht hvm hw hB hz1 hk1 hS => ?_)
  obtain ⟨hP1, hD1⟩ := hB
  rw [ht] at hP1
  obtain ⟨hP, hD⟩ := va_join (wr := []) (w1 := [(ma 0, .inr (11, [.ref (ma 1), .ref (ma 2), .int 0, .long 0, .long 1, .ref (ma 3), .ref (ma 4), .ref (ma 5), .ref (ma 6), .ref (ma 7), .int 0, .int 0, .int 0, .int 0, .int 0, .int 0, .int (-1), .int (-1), .int 0, .int 0, .int 0, .ref (ma 8), .int 0, .int 0, .int (-1), .int 0, .int 0, .int 0, .ref (ma 9), .int 0, .int 0, .ref (ma 10), .ref (ma 11), .ref (ma 12), .int 0, .int 0])), (ma 1, .inl (kc 0, 2880, .inl at0))]) hP hD [0, 1] [] rfl rfl (by decide) (by decide) hk1 hFc hP1 hD1
  have hP : va_P D vwCl [(ma 0, .inr (11, [.ref (ma 1), .ref (ma 2), .int 0, .long 0, .long 1, .ref (ma 3), .ref (ma 4), .ref (ma 5), .ref (ma 6), .ref (ma 7), .int 0, .int 0, .int 0, .int 0, .int 0, .int 0, .int (-1), .int (-1), .int 0, .int 0, .int 0, .ref (ma 8), .int 0, .int 0, .int (-1), .int 0, .int 0, .int 0, .ref (ma 9), .int 0, .int 0, .ref (ma 10), .ref (ma 11), .ref (ma 12), .int 0, .int 0])), (ma 1, .inl (kc 0, 2880, .inl at0))] H := hP
  have hD : va_D A [(ma 0, .inr (11, [.ref (ma 1), .ref (ma 2), .int 0, .long 0, .long 1, .ref (ma 3), .ref (ma 4), .ref (ma 5), .ref (ma 6), .ref (ma 7), .int 0, .int 0, .int 0, .int 0, .int 0, .int 0, .int (-1), .int (-1), .int 0, .int 0, .int 0, .ref (ma 8), .int 0, .int 0, .int (-1), .int 0, .int 0, .int 0, .ref (ma 9), .int 0, .int 0, .ref (ma 10), .ref (ma 11), .ref (ma 12), .int 0, .int 0])), (ma 1, .inl (kc 0, 2880, .inl at0))] := hD
  subst hw
  refine lv_if_ne (tgt := 14) hx hb dX12_chain_5 (by decide) (fun h => absurd (by decide) h) (fun _ => ?_)
  refine lv_aload_n hx hb dX12_chain_8 rfl (lv_at hl 0 rfl) ?_
  refine lv_iconst (v := 1) hx hb dX12_chain_9 (by decide) ?_
  have hPc := hP.sub (ws' := [(ma 0, .inr (11, [.ref (ma 1), .ref (ma 2), .int 0, .long 0, .long 1, .ref (ma 3), .ref (ma 4), .ref (ma 5), .ref (ma 6), .ref (ma 7), .int 0, .int 0, .int 0, .int 0, .int 0, .int 0, .int (-1), .int (-1), .int 0, .int 0, .int 0, .ref (ma 8), .int 0, .int 0, .int (-1), .int 0, .int 0, .int 0, .ref (ma 9), .int 0, .int 0, .ref (ma 10), .ref (ma 11), .ref (ma 12), .int 0, .int 0]))]) [0] rfl
  have hDc := hD.sub (ws' := [(ma 0, .inr (11, [.ref (ma 1), .ref (ma 2), .int 0, .long 0, .long 1, .ref (ma 3), .ref (ma 4), .ref (ma 5), .ref (ma 6), .ref (ma 7), .int 0, .int 0, .int 0, .int 0, .int 0, .int 0, .int (-1), .int (-1), .int 0, .int 0, .int 0, .ref (ma 8), .int 0, .int 0, .int (-1), .int 0, .int 0, .int 0, .ref (ma 9), .int 0, .int 0, .ref (ma 10), .ref (ma 11), .ref (ma 12), .int 0, .int 0]))]) [0] (by decide) rfl
  have hFc := va_free (wc := [(ma 0, .inr (11, [.ref (ma 1), .ref (ma 2), .int 0, .long 0, .long 1, .ref (ma 3), .ref (ma 4), .ref (ma 5), .ref (ma 6), .ref (ma 7), .int 0, .int 0, .int 0, .int 0, .int 0, .int 0, .int (-1), .int (-1), .int 0, .int 0, .int 0, .ref (ma 8), .int 0, .int 0, .int (-1), .int 0, .int 0, .int 0, .ref (ma 9), .int 0, .int 0, .ref (ma 10), .ref (ma 11), .ref (ma 12), .int 0, .int 0]))]) hD hS hA [0] rfl
  refine va_calli (va_runV (As := [.int 1]) (rest := []) ⟨hx, hb, hml, hown, hts⟩ (m_refuse l D kc H.size ma 0 0 1 0 0 0 0 0 0 (-1) (-1) 0 0 0 0 0 (-1) 0 0 0 0 0 0 0 1) (cwV 1 hts gq_chain_72_m_refuse rfl rfl rfl (by decide +kernel) ⟨Nat.le_of_ble_eq_true rfl, Nat.le_of_ble_eq_true rfl⟩) (preV_ok hPc hDc hE (ci := 11) (q0 := 0) rfl rfl) rfl rfl hl.1 rfl (lv_room (Nat.le_of_ble_eq_true rfl)) dX12_chain_10 ⟨Nat.le_of_ble_eq_true rfl, Nat.le_of_ble_eq_true rfl⟩) hS (fun q _ h => hFc q h) hFc (fun r_10 u9 t9 H locs ht hvm hw hB hz1 hk1 hS => ?_)
  obtain ⟨hP1, hD1⟩ := hB
  rw [ht] at hP1
  obtain ⟨hP, hD⟩ := va_join (wr := [(ma 1, .inl (kc 0, 2880, .inl at0))]) (w1 := [(ma 0, .inr (11, [.ref (ma 1), .ref (ma 2), .int 1, .long 0, .long 1, .ref (ma 3), .ref (ma 4), .ref (ma 5), .ref (ma 6), .ref (ma 7), .int 0, .int 0, .int 0, .int 0, .int 0, .int 0, .int (-1), .int (-1), .int 0, .int 0, .int 0, .ref (ma 8), .int 0, .int 0, .int (-1), .int 0, .int 0, .int 0, .ref (ma 9), .int 0, .int 0, .ref (ma 10), .ref (ma 11), .ref (ma 12), .int 0, .int 0]))]) hP hD [0] [1] rfl rfl (by decide) (by decide) hk1 hFc hP1 hD1
  have hP : va_P D vwCl [(ma 1, .inl (kc 0, 2880, .inl at0)), (ma 0, .inr (11, [.ref (ma 1), .ref (ma 2), .int 1, .long 0, .long 1, .ref (ma 3), .ref (ma 4), .ref (ma 5), .ref (ma 6), .ref (ma 7), .int 0, .int 0, .int 0, .int 0, .int 0, .int 0, .int (-1), .int (-1), .int 0, .int 0, .int 0, .ref (ma 8), .int 0, .int 0, .int (-1), .int 0, .int 0, .int 0, .ref (ma 9), .int 0, .int 0, .ref (ma 10), .ref (ma 11), .ref (ma 12), .int 0, .int 0]))] H := hP
  have hD : va_D A [(ma 1, .inl (kc 0, 2880, .inl at0)), (ma 0, .inr (11, [.ref (ma 1), .ref (ma 2), .int 1, .long 0, .long 1, .ref (ma 3), .ref (ma 4), .ref (ma 5), .ref (ma 6), .ref (ma 7), .int 0, .int 0, .int 0, .int 0, .int 0, .int 0, .int (-1), .int (-1), .int 0, .int 0, .int 0, .ref (ma 8), .int 0, .int 0, .int (-1), .int 0, .int 0, .int 0, .ref (ma 9), .int 0, .int 0, .ref (ma 10), .ref (ma 11), .ref (ma 12), .int 0, .int 0]))] := hD
  subst hw
  exact W.iret (v := (-1)) hx hb hr (fun t9 ht hW => ⟨⟨(-1), (), rfl, rfl, trivial⟩, hS.F ht⟩) hS.2.2 dX12_chain_13
theorem dX12_forecast_0 : decode cX12_forecast 0 = .ok (.iload_n 2, 1) := by decide +kernel
theorem dX12_forecast_1 : decode cX12_forecast 1 = .ok (.i2l, 1) := by decide +kernel
theorem dX12_forecast_2 : decode cX12_forecast 2 = .ok (.lconst 0, 1) := by decide +kernel
theorem dX12_forecast_3 : decode cX12_forecast 3 = .ok (.ldc2_w 336, 3) := by decide +kernel
theorem dX12_forecast_6 : decode cX12_forecast 6 = .ok (.invokestatic 298, 3) := by decide +kernel
theorem dX12_forecast_9 : decode cX12_forecast 9 = .ok (.ifCond .eq 12, 3) := by decide +kernel
theorem dX12_forecast_21 : decode cX12_forecast 21 = .ok (.iconst 1, 1) := by decide +kernel
theorem dX12_forecast_22 : decode cX12_forecast 22 = .ok (.goto 8, 3) := by decide +kernel
theorem dX12_forecast_30 : decode cX12_forecast 30 = .ok (.istore 4, 2) := by decide +kernel
theorem dX12_forecast_32 : decode cX12_forecast 32 = .ok (.iload 4, 2) := by decide +kernel
theorem dX12_forecast_34 : decode cX12_forecast 34 = .ok (.ifCond .le 10, 3) := by decide +kernel
theorem dX12_forecast_37 : decode cX12_forecast 37 = .ok (.aload_n 0, 1) := by decide +kernel
theorem dX12_forecast_38 : decode cX12_forecast 38 = .ok (.iload 4, 2) := by decide +kernel
theorem dX12_forecast_40 : decode cX12_forecast 40 = .ok (.invokevirtual 72, 3) := by decide +kernel
theorem dX12_forecast_43 : decode cX12_forecast 43 = .ok (.ireturn, 1) := by decide +kernel
theorem dX12_forecast_12 : decode cX12_forecast 12 = .ok (.iload_n 3, 1) := by decide +kernel
theorem dX12_forecast_13 : decode cX12_forecast 13 = .ok (.ifCond .lt 8, 3) := by decide +kernel
theorem dX12_forecast_16 : decode cX12_forecast 16 = .ok (.iload_n 3, 1) := by decide +kernel
theorem dX12_forecast_17 : decode cX12_forecast 17 = .ok (.iconst 2, 1) := by decide +kernel
theorem dX12_forecast_18 : decode cX12_forecast 18 = .ok (.if_icmp .le 7, 3) := by decide +kernel
theorem dX12_forecast_25 : decode cX12_forecast 25 = .ok (.aload_n 0, 1) := by decide +kernel
theorem dX12_forecast_26 : decode cX12_forecast 26 = .ok (.iload_n 1, 1) := by decide +kernel
theorem dX12_forecast_27 : decode cX12_forecast 27 = .ok (.invokevirtual 263, 3) := by decide +kernel
def vdq_forecast : List Cond := [.code yX12_forecast cX12_forecast 6 (some .int), .constantLong RX12 336 (60), .methodLink RX12 298 yX12_isFrom, .code yX12_isFrom cX12_isFrom 6 (some .boolean), .static yX12_isFrom, .initialized RX12, .methodLink RX12 72 yX12_refuse, .code yX12_refuse cX12_refuse 2 (some .int), .fieldLink RX12 66 "SaltStreetModel" "status" "I", .instanceMethod yX12_refuse, .selects RX12 yX12_refuse yX12_refuse, .methodLink RX12 263 yX12_wrongStep, .code yX12_wrongStep cX12_wrongStep 2 (some .int), .methodLink RX12 251 yX12_isHouse, .code yX12_isHouse cX12_isHouse 2 (some .boolean), .fieldLink RX12 7 "SaltStreetModel" "at" "[I", .instanceMethod yX12_isHouse, .selects RX12 yX12_isHouse yX12_isHouse, .instanceMethod yX12_wrongStep, .selects RX12 yX12_wrongStep yX12_wrongStep]
def vq_forecast : List Cond := vdq_forecast ++ (wsX120 ++ ([] : List Cond))
theorem iq_forecast_X12 : ∀ w ∈ wsX120, w ∈ vq_forecast := fun _ h => List.mem_append_right _ (List.mem_append_left _ h)
set_option maxRecDepth 20000 in
theorem gq_forecast_298_m_isFrom : GoodIn vq_forecast (va_wsS RX12 298 yX12_isFrom vm_isFrom) := (goodIn_app (goodIn_r _ [2, 4, 5] rfl (by decide +kernel)) (goodIn_app (goodIn_r vdm_isFrom [3] rfl (by decide +kernel)) goodIn_nil))
set_option maxRecDepth 20000 in
theorem gq_forecast_72_m_refuse : GoodIn vq_forecast (wsV RX12 72 RX12 yX12_refuse vm_refuse) := (goodIn_app (goodIn_r _ [6, 9, 10, 5] rfl (by decide +kernel)) (goodIn_app (goodIn_r vdm_refuse [7, 8] rfl (by decide +kernel)) (goodIn_app (goodIn_sub iq_forecast_X12 gdX12) goodIn_nil)))
set_option maxRecDepth 20000 in
theorem gq_forecast_263_m_wrongStep : GoodIn vq_forecast (wsV RX12 263 RX12 yX12_wrongStep vm_wrongStep) := (goodIn_app (goodIn_r _ [11, 18, 19, 5] rfl (by decide +kernel)) (goodIn_app (goodIn_r vdm_wrongStep [12, 13, 14, 15, 16, 17, 5] rfl (by decide +kernel)) (goodIn_app (goodIn_sub iq_forecast_X12 gdX12) goodIn_nil)))
set_option maxHeartbeats 4000000 in
set_option maxRecDepth 100000 in
theorem q_forecast (l : Launch) (D : va_G) (kc : Nat → ClassId) (sz : Nat) (ma : Nat → Nat) (a0 : Int32) (a1 : Int32) (a2 : Int32) : Met l yX12_forecast vq_forecast ({ frames := 2, cells := 0, slots := 0, locals := 42 }) (va_Pc [.ref (ma 0), .int a0, .int a1, .int a2] (wPre D kc [(ma 0, .inr (11, [.ref (ma 1), .ref (ma 2), .int 0, .long 0, .long 1, .ref (ma 3), .ref (ma 4), .ref (ma 5), .ref (ma 6), .ref (ma 7), .int 0, .int 0, .int 0, .int 0, .int 0, .int 0, .int (-1), .int (-1), .int 0, .int 0, .int 0, .ref (ma 8), .int 0, .int 0, .int (-1), .int 0, .int 0, .int 0, .ref (ma 9), .int 0, .int 0, .ref (ma 10), .ref (ma 11), .ref (ma 12), .int 0, .int 0])), (ma 1, .inl (kc 0, 2880, .inl at0))] sz)) (va_Qi (fun (r : Int32) (_ : Unit) => r = (-1)) wAny (va_A [(ma 0, .inr (11, [.ref (ma 1), .ref (ma 2), .int 0, .long 0, .long 1, .ref (ma 3), .ref (ma 4), .ref (ma 5), .ref (ma 6), .ref (ma 7), .int 0, .int 0, .int 0, .int 0, .int 0, .int 0, .int (-1), .int (-1), .int 0, .int 0, .int 0, .ref (ma 8), .int 0, .int 0, .int (-1), .int 0, .int 0, .int 0, .ref (ma 9), .int 0, .int 0, .ref (ma 10), .ref (ma 11), .ref (ma 12), .int 0, .int 0])), (ma 1, .inl (kc 0, 2880, .inl at0))] sz)) 0 0 (va_A [(ma 0, .inr (11, [.ref (ma 1), .ref (ma 2), .int 0, .long 0, .long 1, .ref (ma 3), .ref (ma 4), .ref (ma 5), .ref (ma 6), .ref (ma 7), .int 0, .int 0, .int 0, .int 0, .int 0, .int 0, .int (-1), .int (-1), .int 0, .int 0, .int 0, .ref (ma 8), .int 0, .int 0, .int (-1), .int 0, .int 0, .int 0, .ref (ma 9), .int 0, .int 0, .ref (ma 10), .ref (ma 11), .ref (ma 12), .int 0, .int 0])), (ma 1, .inl (kc 0, 2880, .inl at0))] sz) := by
  refine Met.ofW (cc := cX12_forecast) (maxL := 6) (ret := (some .int)) (by decide) rfl ?_
  intro p e s m args below meth c s₁ B hml hv
  obtain ⟨rfl, hsz, hP, hE, hD0⟩ := hv
  have hx := B.exec
  have hb := B.bytes
  have hr := B.returns
  have hts := atoms_spec (ws := vq_forecast) B.pre
  have hown : s.vm.findClass RX12 = some m.cls := findClass_of_methodNamed B.named
  have hlocks := B.notSynchronized
  subst hsz
  have hD := hD0.self (sz := s.heap.size)
  generalize hAe : va_A [(ma 0, .inr (11, [.ref (ma 1), .ref (ma 2), .int 0, .long 0, .long 1, .ref (ma 3), .ref (ma 4), .ref (ma 5), .ref (ma 6), .ref (ma 7), .int 0, .int 0, .int 0, .int 0, .int 0, .int 0, .int (-1), .int (-1), .int 0, .int 0, .int 0, .ref (ma 8), .int 0, .int 0, .int (-1), .int 0, .int 0, .int 0, .ref (ma 9), .int 0, .int 0, .ref (ma 10), .ref (ma 11), .ref (ma 12), .int 0, .int 0])), (ma 1, .inl (kc 0, 2880, .inl at0))] s.heap.size = A at hD ⊢
  have hA : ∀ q : Nat, s.heap.size ≤ q → A q := fun q h => by rw [← hAe]; exact Or.inr h
  have hS : va_S A s.heap s.heap [] := va_S.rf
  have hK := hE.1
  have hP : va_P D vwCl [(ma 0, .inr (11, [.ref (ma 1), .ref (ma 2), .int 0, .long 0, .long 1, .ref (ma 3), .ref (ma 4), .ref (ma 5), .ref (ma 6), .ref (ma 7), .int 0, .int 0, .int 0, .int 0, .int 0, .int 0, .int (-1), .int (-1), .int 0, .int 0, .int 0, .ref (ma 8), .int 0, .int 0, .int (-1), .int 0, .int 0, .int 0, .ref (ma 9), .int 0, .int 0, .ref (ma 10), .ref (ma 11), .ref (ma 12), .int 0, .int 0])), (ma 1, .inl (kc 0, 2880, .inl at0))] s.heap := hP
  have hl := lv_entry ([.ref (ma 0), .int a0, .int a1, .int a2]) (n := 6) (Nat.le_of_ble_eq_true rfl)
  rw [lg_entry_eq]
  generalize (lg_sl ([.ref (ma 0), .int a0, .int a1, .int a2]) ++ List.replicate (6 - (lg_sl ([.ref (ma 0), .int a0, .int a1, .int a2])).length) Slot.unset).toArray = ls at hl ⊢
  have hl : lv_has ls 6 [(0, .ref (ma 0)), (1, .int a0), (2, .int a1), (3, .int a2)] := hl
  refine lv_iload_n hx hb dX12_forecast_0 rfl (lv_at hl 2 rfl) ?_
  refine lv_i2l (v := (a1.toInt64)) hx hb dX12_forecast_1 rfl ?_
  refine lv_lconst (v := 0) hx hb dX12_forecast_2 (by decide) ?_
  refine lv_ldc2 (v := 60) hx hb hown (hts (.constantLong RX12 336 (60)) (List.mem_of_getElem? (i := 1) rfl)) dX12_forecast_3 ?_
  have hPc := hP.sub (ws' := []) [] rfl
  have hDc := hD.sub (ws' := []) [] (by decide) rfl
  have hFc := va_free (wc := []) hD hS hA [] rfl
  refine va_calli (va_runS (As := [.long (a1.toInt64), .long 0, .long 60]) (rest := []) ⟨hx, hb, hml, hown, hts⟩ (m_isFrom l D kc s.heap.size (a1.toInt64) 0 60) (va_cwS 3 hts gq_forecast_298_m_isFrom rfl rfl rfl (by decide +kernel) ⟨Nat.le_of_ble_eq_true rfl, Nat.le_of_ble_eq_true rfl⟩) (preS_ok hPc hDc hE) rfl rfl hl.1 rfl (lv_room (Nat.le_of_ble_eq_true rfl)) dX12_forecast_6 ⟨Nat.le_of_ble_eq_true rfl, Nat.le_of_ble_eq_true rfl⟩) hS (fun q _ h => hFc q h) hFc (fun r_6 u9 t9 H locs ht hvm hw hB hz1 hk1 hS => ?_)
  obtain ⟨hP1, hD1⟩ := hB
  rw [ht] at hP1
  obtain ⟨hP, hD⟩ := va_join (wr := [(ma 0, .inr (11, [.ref (ma 1), .ref (ma 2), .int 0, .long 0, .long 1, .ref (ma 3), .ref (ma 4), .ref (ma 5), .ref (ma 6), .ref (ma 7), .int 0, .int 0, .int 0, .int 0, .int 0, .int 0, .int (-1), .int (-1), .int 0, .int 0, .int 0, .ref (ma 8), .int 0, .int 0, .int (-1), .int 0, .int 0, .int 0, .ref (ma 9), .int 0, .int 0, .ref (ma 10), .ref (ma 11), .ref (ma 12), .int 0, .int 0])), (ma 1, .inl (kc 0, 2880, .inl at0))]) (w1 := []) hP hD [] [0, 1] rfl rfl (by decide) (by decide) hk1 hFc hP1 hD1
  have hP : va_P D vwCl [(ma 0, .inr (11, [.ref (ma 1), .ref (ma 2), .int 0, .long 0, .long 1, .ref (ma 3), .ref (ma 4), .ref (ma 5), .ref (ma 6), .ref (ma 7), .int 0, .int 0, .int 0, .int 0, .int 0, .int 0, .int (-1), .int (-1), .int 0, .int 0, .int 0, .ref (ma 8), .int 0, .int 0, .int (-1), .int 0, .int 0, .int 0, .ref (ma 9), .int 0, .int 0, .ref (ma 10), .ref (ma 11), .ref (ma 12), .int 0, .int 0])), (ma 1, .inl (kc 0, 2880, .inl at0))] H := hP
  have hD : va_D A [(ma 0, .inr (11, [.ref (ma 1), .ref (ma 2), .int 0, .long 0, .long 1, .ref (ma 3), .ref (ma 4), .ref (ma 5), .ref (ma 6), .ref (ma 7), .int 0, .int 0, .int 0, .int 0, .int 0, .int 0, .int (-1), .int (-1), .int 0, .int 0, .int 0, .ref (ma 8), .int 0, .int 0, .int (-1), .int 0, .int 0, .int 0, .ref (ma 9), .int 0, .int 0, .ref (ma 10), .ref (ma 11), .ref (ma 12), .int 0, .int 0])), (ma 1, .inl (kc 0, 2880, .inl at0))] := hD
  subst hw
  refine lv_if_eq (tgt := 21) hx hb dX12_forecast_9 (by decide) (fun c_9 => ?_) (fun c_9 => ?_)
  · refine lv_iconst (v := 1) hx hb dX12_forecast_21 (by decide) ?_
    refine lv_goto (tgt := 30) hx hb dX12_forecast_22 (by decide) ?_
    refine lv_istore (lv' := [(4, .int 1), (0, .ref (ma 0)), (1, .int a0), (2, .int a1), (3, .int a2)]) hx hb dX12_forecast_30 hl (by decide) rfl (fun ls hl => ?_)
    refine lv_iload hx hb dX12_forecast_32 (lv_at hl 0 rfl) ?_
    refine lv_if_le (tgt := 44) hx hb dX12_forecast_34 (by decide) (fun h => absurd h (by decide)) (fun _ => ?_)
    refine lv_aload_n hx hb dX12_forecast_37 rfl (lv_at hl 1 rfl) ?_
    refine lv_iload hx hb dX12_forecast_38 (lv_at hl 0 rfl) ?_
    have hPc := hP.sub (ws' := [(ma 0, .inr (11, [.ref (ma 1), .ref (ma 2), .int 0, .long 0, .long 1, .ref (ma 3), .ref (ma 4), .ref (ma 5), .ref (ma 6), .ref (ma 7), .int 0, .int 0, .int 0, .int 0, .int 0, .int 0, .int (-1), .int (-1), .int 0, .int 0, .int 0, .ref (ma 8), .int 0, .int 0, .int (-1), .int 0, .int 0, .int 0, .ref (ma 9), .int 0, .int 0, .ref (ma 10), .ref (ma 11), .ref (ma 12), .int 0, .int 0]))]) [0] rfl
    have hDc := hD.sub (ws' := [(ma 0, .inr (11, [.ref (ma 1), .ref (ma 2), .int 0, .long 0, .long 1, .ref (ma 3), .ref (ma 4), .ref (ma 5), .ref (ma 6), .ref (ma 7), .int 0, .int 0, .int 0, .int 0, .int 0, .int 0, .int (-1), .int (-1), .int 0, .int 0, .int 0, .ref (ma 8), .int 0, .int 0, .int (-1), .int 0, .int 0, .int 0, .ref (ma 9), .int 0, .int 0, .ref (ma 10), .ref (ma 11), .ref (ma 12), .int 0, .int 0]))]) [0] (by decide) rfl
    have hFc := va_free (wc := [(ma 0, .inr (11, [.ref (ma 1), .ref (ma 2), .int 0, .long 0, .long 1, .ref (ma 3), .ref (ma 4), .ref (ma 5), .ref (ma 6), .ref (ma 7), .int 0, .int 0, .int 0, .int 0, .int 0, .int 0, .int (-1), .int (-1), .int 0, .int 0, .int 0, .ref (ma 8), .int 0, .int 0, .int (-1), .int 0, .int 0, .int 0, .ref (ma 9), .int 0, .int 0, .ref (ma 10), .ref (ma 11), .ref (ma 12), .int 0, .int 0]))]) hD hS hA [0] rfl
    refine va_calli (va_runV (As := [.int 1]) (rest := []) ⟨hx, hb, hml, hown, hts⟩ (m_refuse l D kc H.size ma 0 0 1 0 0 0 0 0 0 (-1) (-1) 0 0 0 0 0 (-1) 0 0 0 0 0 0 0 1) (cwV 1 hts gq_forecast_72_m_refuse rfl rfl rfl (by decide +kernel) ⟨Nat.le_of_ble_eq_true rfl, Nat.le_of_ble_eq_true rfl⟩) (preV_ok hPc hDc hE (ci := 11) (q0 := 0) rfl rfl) rfl rfl hl.1 rfl (lv_room (Nat.le_of_ble_eq_true rfl)) dX12_forecast_40 ⟨Nat.le_of_ble_eq_true rfl, Nat.le_of_ble_eq_true rfl⟩) hS (fun q _ h => hFc q h) hFc (fun r_40_1 u9 t9 H locs ht hvm hw hB hz1 hk1 hS => ?_)
    obtain ⟨hP1, hD1⟩ := hB
    rw [ht] at hP1
    obtain ⟨hP, hD⟩ := va_join (wr := [(ma 1, .inl (kc 0, 2880, .inl at0))]) (w1 := [(ma 0, .inr (11, [.ref (ma 1), .ref (ma 2), .int 1, .long 0, .long 1, .ref (ma 3), .ref (ma 4), .ref (ma 5), .ref (ma 6), .ref (ma 7), .int 0, .int 0, .int 0, .int 0, .int 0, .int 0, .int (-1), .int (-1), .int 0, .int 0, .int 0, .ref (ma 8), .int 0, .int 0, .int (-1), .int 0, .int 0, .int 0, .ref (ma 9), .int 0, .int 0, .ref (ma 10), .ref (ma 11), .ref (ma 12), .int 0, .int 0]))]) hP hD [0] [1] rfl rfl (by decide) (by decide) hk1 hFc hP1 hD1
    have hP : va_P D vwCl [(ma 1, .inl (kc 0, 2880, .inl at0)), (ma 0, .inr (11, [.ref (ma 1), .ref (ma 2), .int 1, .long 0, .long 1, .ref (ma 3), .ref (ma 4), .ref (ma 5), .ref (ma 6), .ref (ma 7), .int 0, .int 0, .int 0, .int 0, .int 0, .int 0, .int (-1), .int (-1), .int 0, .int 0, .int 0, .ref (ma 8), .int 0, .int 0, .int (-1), .int 0, .int 0, .int 0, .ref (ma 9), .int 0, .int 0, .ref (ma 10), .ref (ma 11), .ref (ma 12), .int 0, .int 0]))] H := hP
    have hD : va_D A [(ma 1, .inl (kc 0, 2880, .inl at0)), (ma 0, .inr (11, [.ref (ma 1), .ref (ma 2), .int 1, .long 0, .long 1, .ref (ma 3), .ref (ma 4), .ref (ma 5), .ref (ma 6), .ref (ma 7), .int 0, .int 0, .int 0, .int 0, .int 0, .int 0, .int (-1), .int (-1), .int 0, .int 0, .int 0, .ref (ma 8), .int 0, .int 0, .int (-1), .int 0, .int 0, .int 0, .ref (ma 9), .int 0, .int 0, .ref (ma 10), .ref (ma 11), .ref (ma 12), .int 0, .int 0]))] := hD
    subst hw
    exact W.iret (v := (-1)) hx hb hr (fun t9 ht hW => ⟨⟨(-1), (), rfl, rfl, trivial⟩, hS.F ht⟩) hS.2.2 dX12_forecast_43
  · refine lv_iload_n hx hb dX12_forecast_12 rfl (lv_at hl 3 rfl) ?_
    refine lv_if_lt (tgt := 21) hx hb dX12_forecast_13 (by decide) (fun c_13 => ?_) (fun c_13 => ?_)
    · refine lv_iconst (v := 1) hx hb dX12_forecast_21 (by decide) ?_
      refine lv_goto (tgt := 30) hx hb dX12_forecast_22 (by decide) ?_
      refine lv_istore (lv' := [(4, .int 1), (0, .ref (ma 0)), (1, .int a0), (2, .int a1), (3, .int a2)]) hx hb dX12_forecast_30 hl (by decide) rfl (fun ls hl => ?_)
      refine lv_iload hx hb dX12_forecast_32 (lv_at hl 0 rfl) ?_
      refine lv_if_le (tgt := 44) hx hb dX12_forecast_34 (by decide) (fun h => absurd h (by decide)) (fun _ => ?_)
      refine lv_aload_n hx hb dX12_forecast_37 rfl (lv_at hl 1 rfl) ?_
      refine lv_iload hx hb dX12_forecast_38 (lv_at hl 0 rfl) ?_
      have hPc := hP.sub (ws' := [(ma 0, .inr (11, [.ref (ma 1), .ref (ma 2), .int 0, .long 0, .long 1, .ref (ma 3), .ref (ma 4), .ref (ma 5), .ref (ma 6), .ref (ma 7), .int 0, .int 0, .int 0, .int 0, .int 0, .int 0, .int (-1), .int (-1), .int 0, .int 0, .int 0, .ref (ma 8), .int 0, .int 0, .int (-1), .int 0, .int 0, .int 0, .ref (ma 9), .int 0, .int 0, .ref (ma 10), .ref (ma 11), .ref (ma 12), .int 0, .int 0]))]) [0] rfl
      have hDc := hD.sub (ws' := [(ma 0, .inr (11, [.ref (ma 1), .ref (ma 2), .int 0, .long 0, .long 1, .ref (ma 3), .ref (ma 4), .ref (ma 5), .ref (ma 6), .ref (ma 7), .int 0, .int 0, .int 0, .int 0, .int 0, .int 0, .int (-1), .int (-1), .int 0, .int 0, .int 0, .ref (ma 8), .int 0, .int 0, .int (-1), .int 0, .int 0, .int 0, .ref (ma 9), .int 0, .int 0, .ref (ma 10), .ref (ma 11), .ref (ma 12), .int 0, .int 0]))]) [0] (by decide) rfl
      have hFc := va_free (wc := [(ma 0, .inr (11, [.ref (ma 1), .ref (ma 2), .int 0, .long 0, .long 1, .ref (ma 3), .ref (ma 4), .ref (ma 5), .ref (ma 6), .ref (ma 7), .int 0, .int 0, .int 0, .int 0, .int 0, .int 0, .int (-1), .int (-1), .int 0, .int 0, .int 0, .ref (ma 8), .int 0, .int 0, .int (-1), .int 0, .int 0, .int 0, .ref (ma 9), .int 0, .int 0, .ref (ma 10), .ref (ma 11), .ref (ma 12), .int 0, .int 0]))]) hD hS hA [0] rfl
      refine va_calli (va_runV (As := [.int 1]) (rest := []) ⟨hx, hb, hml, hown, hts⟩ (m_refuse l D kc H.size ma 0 0 1 0 0 0 0 0 0 (-1) (-1) 0 0 0 0 0 (-1) 0 0 0 0 0 0 0 1) (cwV 1 hts gq_forecast_72_m_refuse rfl rfl rfl (by decide +kernel) ⟨Nat.le_of_ble_eq_true rfl, Nat.le_of_ble_eq_true rfl⟩) (preV_ok hPc hDc hE (ci := 11) (q0 := 0) rfl rfl) rfl rfl hl.1 rfl (lv_room (Nat.le_of_ble_eq_true rfl)) dX12_forecast_40 ⟨Nat.le_of_ble_eq_true rfl, Nat.le_of_ble_eq_true rfl⟩) hS (fun q _ h => hFc q h) hFc (fun r_40_2 u9 t9 H locs ht hvm hw hB hz1 hk1 hS => ?_)
      obtain ⟨hP1, hD1⟩ := hB
      rw [ht] at hP1
      obtain ⟨hP, hD⟩ := va_join (wr := [(ma 1, .inl (kc 0, 2880, .inl at0))]) (w1 := [(ma 0, .inr (11, [.ref (ma 1), .ref (ma 2), .int 1, .long 0, .long 1, .ref (ma 3), .ref (ma 4), .ref (ma 5), .ref (ma 6), .ref (ma 7), .int 0, .int 0, .int 0, .int 0, .int 0, .int 0, .int (-1), .int (-1), .int 0, .int 0, .int 0, .ref (ma 8), .int 0, .int 0, .int (-1), .int 0, .int 0, .int 0, .ref (ma 9), .int 0, .int 0, .ref (ma 10), .ref (ma 11), .ref (ma 12), .int 0, .int 0]))]) hP hD [0] [1] rfl rfl (by decide) (by decide) hk1 hFc hP1 hD1
      have hP : va_P D vwCl [(ma 1, .inl (kc 0, 2880, .inl at0)), (ma 0, .inr (11, [.ref (ma 1), .ref (ma 2), .int 1, .long 0, .long 1, .ref (ma 3), .ref (ma 4), .ref (ma 5), .ref (ma 6), .ref (ma 7), .int 0, .int 0, .int 0, .int 0, .int 0, .int 0, .int (-1), .int (-1), .int 0, .int 0, .int 0, .ref (ma 8), .int 0, .int 0, .int (-1), .int 0, .int 0, .int 0, .ref (ma 9), .int 0, .int 0, .ref (ma 10), .ref (ma 11), .ref (ma 12), .int 0, .int 0]))] H := hP
      have hD : va_D A [(ma 1, .inl (kc 0, 2880, .inl at0)), (ma 0, .inr (11, [.ref (ma 1), .ref (ma 2), .int 1, .long 0, .long 1, .ref (ma 3), .ref (ma 4), .ref (ma 5), .ref (ma 6), .ref (ma 7), .int 0, .int 0, .int 0, .int 0, .int 0, .int 0, .int (-1), .int (-1), .int 0, .int 0, .int 0, .ref (ma 8), .int 0, .int 0, .int (-1), .int 0, .int 0, .int 0, .ref (ma 9), .int 0, .int 0, .ref (ma 10), .ref (ma 11), .ref (ma 12), .int 0, .int 0]))] := hD
      subst hw
      exact W.iret (v := (-1)) hx hb hr (fun t9 ht hW => ⟨⟨(-1), (), rfl, rfl, trivial⟩, hS.F ht⟩) hS.2.2 dX12_forecast_43
    · refine lv_iload_n hx hb dX12_forecast_16 rfl (lv_at hl 3 rfl) ?_
      refine lv_iconst (v := 2) hx hb dX12_forecast_17 (by decide) ?_
      refine lv_icmp_le (tgt := 25) hx hb dX12_forecast_18 (by decide) (fun c_18 => ?_) (fun c_18 => ?_)
      · refine lv_aload_n hx hb dX12_forecast_25 rfl (lv_at hl 0 rfl) ?_
        refine lv_iload_n hx hb dX12_forecast_26 rfl (lv_at hl 1 rfl) ?_
        have hPc := hP.sub (ws' := [(ma 0, .inr (11, [.ref (ma 1), .ref (ma 2), .int 0, .long 0, .long 1, .ref (ma 3), .ref (ma 4), .ref (ma 5), .ref (ma 6), .ref (ma 7), .int 0, .int 0, .int 0, .int 0, .int 0, .int 0, .int (-1), .int (-1), .int 0, .int 0, .int 0, .ref (ma 8), .int 0, .int 0, .int (-1), .int 0, .int 0, .int 0, .ref (ma 9), .int 0, .int 0, .ref (ma 10), .ref (ma 11), .ref (ma 12), .int 0, .int 0])), (ma 1, .inl (kc 0, 2880, .inl at0))]) [0, 1] rfl
        have hDc := hD.sub (ws' := [(ma 0, .inr (11, [.ref (ma 1), .ref (ma 2), .int 0, .long 0, .long 1, .ref (ma 3), .ref (ma 4), .ref (ma 5), .ref (ma 6), .ref (ma 7), .int 0, .int 0, .int 0, .int 0, .int 0, .int 0, .int (-1), .int (-1), .int 0, .int 0, .int 0, .ref (ma 8), .int 0, .int 0, .int (-1), .int 0, .int 0, .int 0, .ref (ma 9), .int 0, .int 0, .ref (ma 10), .ref (ma 11), .ref (ma 12), .int 0, .int 0])), (ma 1, .inl (kc 0, 2880, .inl at0))]) [0, 1] (by decide) rfl
        have hFc := va_free (wc := [(ma 0, .inr (11, [.ref (ma 1), .ref (ma 2), .int 0, .long 0, .long 1, .ref (ma 3), .ref (ma 4), .ref (ma 5), .ref (ma 6), .ref (ma 7), .int 0, .int 0, .int 0, .int 0, .int 0, .int 0, .int (-1), .int (-1), .int 0, .int 0, .int 0, .ref (ma 8), .int 0, .int 0, .int (-1), .int 0, .int 0, .int 0, .ref (ma 9), .int 0, .int 0, .ref (ma 10), .ref (ma 11), .ref (ma 12), .int 0, .int 0])), (ma 1, .inl (kc 0, 2880, .inl at0))]) hD hS hA [0, 1] rfl
        refine va_calli (va_runV (As := [.int a0]) (rest := []) ⟨hx, hb, hml, hown, hts⟩ (m_wrongStep l D kc H.size ma a0) (cwV 1 hts gq_forecast_263_m_wrongStep rfl rfl rfl (by decide +kernel) ⟨Nat.le_of_ble_eq_true rfl, Nat.le_of_ble_eq_true rfl⟩) (preV_ok hPc hDc hE (ci := 11) (q0 := 0) rfl rfl) rfl rfl hl.1 rfl (lv_room (Nat.le_of_ble_eq_true rfl)) dX12_forecast_27 ⟨Nat.le_of_ble_eq_true rfl, Nat.le_of_ble_eq_true rfl⟩) hS (fun q _ h => hFc q h) hFc (fun r_27_3 u9 t9 H locs ht hvm hw hB hz1 hk1 hS => ?_)
        obtain ⟨hP1, hD1⟩ := hB
        rw [ht] at hP1
        obtain ⟨hP, hD⟩ := va_join (wr := []) (w1 := [(ma 0, .inr (11, [.ref (ma 1), .ref (ma 2), .int 0, .long 0, .long 1, .ref (ma 3), .ref (ma 4), .ref (ma 5), .ref (ma 6), .ref (ma 7), .int 0, .int 0, .int 0, .int 0, .int 0, .int 0, .int (-1), .int (-1), .int 0, .int 0, .int 0, .ref (ma 8), .int 0, .int 0, .int (-1), .int 0, .int 0, .int 0, .ref (ma 9), .int 0, .int 0, .ref (ma 10), .ref (ma 11), .ref (ma 12), .int 0, .int 0])), (ma 1, .inl (kc 0, 2880, .inl at0))]) hP hD [0, 1] [] rfl rfl (by decide) (by decide) hk1 hFc hP1 hD1
        have hP : va_P D vwCl [(ma 0, .inr (11, [.ref (ma 1), .ref (ma 2), .int 0, .long 0, .long 1, .ref (ma 3), .ref (ma 4), .ref (ma 5), .ref (ma 6), .ref (ma 7), .int 0, .int 0, .int 0, .int 0, .int 0, .int 0, .int (-1), .int (-1), .int 0, .int 0, .int 0, .ref (ma 8), .int 0, .int 0, .int (-1), .int 0, .int 0, .int 0, .ref (ma 9), .int 0, .int 0, .ref (ma 10), .ref (ma 11), .ref (ma 12), .int 0, .int 0])), (ma 1, .inl (kc 0, 2880, .inl at0))] H := hP
        have hD : va_D A [(ma 0, .inr (11, [.ref (ma 1), .ref (ma 2), .int 0, .long 0, .long 1, .ref (ma 3), .ref (ma 4), .ref (ma 5), .ref (ma 6), .ref (ma 7), .int 0, .int 0, .int 0, .int 0, .int 0, .int 0, .int (-1), .int (-1), .int 0, .int 0, .int 0, .ref (ma 8), .int 0, .int 0, .int (-1), .int 0, .int 0, .int 0, .ref (ma 9), .int 0, .int 0, .ref (ma 10), .ref (ma 11), .ref (ma 12), .int 0, .int 0])), (ma 1, .inl (kc 0, 2880, .inl at0))] := hD
        subst hw
        refine lv_istore (lv' := [(4, .int 1), (0, .ref (ma 0)), (1, .int a0), (2, .int a1), (3, .int a2)]) hx hb dX12_forecast_30 hl (by decide) rfl (fun ls hl => ?_)
        refine lv_iload hx hb dX12_forecast_32 (lv_at hl 0 rfl) ?_
        refine lv_if_le (tgt := 44) hx hb dX12_forecast_34 (by decide) (fun h => absurd h (by decide)) (fun _ => ?_)
        refine lv_aload_n hx hb dX12_forecast_37 rfl (lv_at hl 1 rfl) ?_
        refine lv_iload hx hb dX12_forecast_38 (lv_at hl 0 rfl) ?_
        have hPc := hP.sub (ws' := [(ma 0, .inr (11, [.ref (ma 1), .ref (ma 2), .int 0, .long 0, .long 1, .ref (ma 3), .ref (ma 4), .ref (ma 5), .ref (ma 6), .ref (ma 7), .int 0, .int 0, .int 0, .int 0, .int 0, .int 0, .int (-1), .int (-1), .int 0, .int 0, .int 0, .ref (ma 8), .int 0, .int 0, .int (-1), .int 0, .int 0, .int 0, .ref (ma 9), .int 0, .int 0, .ref (ma 10), .ref (ma 11), .ref (ma 12), .int 0, .int 0]))]) [0] rfl
        have hDc := hD.sub (ws' := [(ma 0, .inr (11, [.ref (ma 1), .ref (ma 2), .int 0, .long 0, .long 1, .ref (ma 3), .ref (ma 4), .ref (ma 5), .ref (ma 6), .ref (ma 7), .int 0, .int 0, .int 0, .int 0, .int 0, .int 0, .int (-1), .int (-1), .int 0, .int 0, .int 0, .ref (ma 8), .int 0, .int 0, .int (-1), .int 0, .int 0, .int 0, .ref (ma 9), .int 0, .int 0, .ref (ma 10), .ref (ma 11), .ref (ma 12), .int 0, .int 0]))]) [0] (by decide) rfl
        have hFc := va_free (wc := [(ma 0, .inr (11, [.ref (ma 1), .ref (ma 2), .int 0, .long 0, .long 1, .ref (ma 3), .ref (ma 4), .ref (ma 5), .ref (ma 6), .ref (ma 7), .int 0, .int 0, .int 0, .int 0, .int 0, .int 0, .int (-1), .int (-1), .int 0, .int 0, .int 0, .ref (ma 8), .int 0, .int 0, .int (-1), .int 0, .int 0, .int 0, .ref (ma 9), .int 0, .int 0, .ref (ma 10), .ref (ma 11), .ref (ma 12), .int 0, .int 0]))]) hD hS hA [0] rfl
        refine va_calli (va_runV (As := [.int 1]) (rest := []) ⟨hx, hb, hml, hown, hts⟩ (m_refuse l D kc H.size ma 0 0 1 0 0 0 0 0 0 (-1) (-1) 0 0 0 0 0 (-1) 0 0 0 0 0 0 0 1) (cwV 1 hts gq_forecast_72_m_refuse rfl rfl rfl (by decide +kernel) ⟨Nat.le_of_ble_eq_true rfl, Nat.le_of_ble_eq_true rfl⟩) (preV_ok hPc hDc hE (ci := 11) (q0 := 0) rfl rfl) rfl rfl hl.1 rfl (lv_room (Nat.le_of_ble_eq_true rfl)) dX12_forecast_40 ⟨Nat.le_of_ble_eq_true rfl, Nat.le_of_ble_eq_true rfl⟩) hS (fun q _ h => hFc q h) hFc (fun r_40_3 u9 t9 H locs ht hvm hw hB hz1 hk1 hS => ?_)
        obtain ⟨hP1, hD1⟩ := hB
        rw [ht] at hP1
        obtain ⟨hP, hD⟩ := va_join (wr := [(ma 1, .inl (kc 0, 2880, .inl at0))]) (w1 := [(ma 0, .inr (11, [.ref (ma 1), .ref (ma 2), .int 1, .long 0, .long 1, .ref (ma 3), .ref (ma 4), .ref (ma 5), .ref (ma 6), .ref (ma 7), .int 0, .int 0, .int 0, .int 0, .int 0, .int 0, .int (-1), .int (-1), .int 0, .int 0, .int 0, .ref (ma 8), .int 0, .int 0, .int (-1), .int 0, .int 0, .int 0, .ref (ma 9), .int 0, .int 0, .ref (ma 10), .ref (ma 11), .ref (ma 12), .int 0, .int 0]))]) hP hD [0] [1] rfl rfl (by decide) (by decide) hk1 hFc hP1 hD1
        have hP : va_P D vwCl [(ma 1, .inl (kc 0, 2880, .inl at0)), (ma 0, .inr (11, [.ref (ma 1), .ref (ma 2), .int 1, .long 0, .long 1, .ref (ma 3), .ref (ma 4), .ref (ma 5), .ref (ma 6), .ref (ma 7), .int 0, .int 0, .int 0, .int 0, .int 0, .int 0, .int (-1), .int (-1), .int 0, .int 0, .int 0, .ref (ma 8), .int 0, .int 0, .int (-1), .int 0, .int 0, .int 0, .ref (ma 9), .int 0, .int 0, .ref (ma 10), .ref (ma 11), .ref (ma 12), .int 0, .int 0]))] H := hP
        have hD : va_D A [(ma 1, .inl (kc 0, 2880, .inl at0)), (ma 0, .inr (11, [.ref (ma 1), .ref (ma 2), .int 1, .long 0, .long 1, .ref (ma 3), .ref (ma 4), .ref (ma 5), .ref (ma 6), .ref (ma 7), .int 0, .int 0, .int 0, .int 0, .int 0, .int 0, .int (-1), .int (-1), .int 0, .int 0, .int 0, .ref (ma 8), .int 0, .int 0, .int (-1), .int 0, .int 0, .int 0, .ref (ma 9), .int 0, .int 0, .ref (ma 10), .ref (ma 11), .ref (ma 12), .int 0, .int 0]))] := hD
        subst hw
        exact W.iret (v := (-1)) hx hb hr (fun t9 ht hW => ⟨⟨(-1), (), rfl, rfl, trivial⟩, hS.F ht⟩) hS.2.2 dX12_forecast_43
      · refine lv_iconst (v := 1) hx hb dX12_forecast_21 (by decide) ?_
        refine lv_goto (tgt := 30) hx hb dX12_forecast_22 (by decide) ?_
        refine lv_istore (lv' := [(4, .int 1), (0, .ref (ma 0)), (1, .int a0), (2, .int a1), (3, .int a2)]) hx hb dX12_forecast_30 hl (by decide) rfl (fun ls hl => ?_)
        refine lv_iload hx hb dX12_forecast_32 (lv_at hl 0 rfl) ?_
        refine lv_if_le (tgt := 44) hx hb dX12_forecast_34 (by decide) (fun h => absurd h (by decide)) (fun _ => ?_)
        refine lv_aload_n hx hb dX12_forecast_37 rfl (lv_at hl 1 rfl) ?_
        refine lv_iload hx hb dX12_forecast_38 (lv_at hl 0 rfl) ?_
        have hPc := hP.sub (ws' := [(ma 0, .inr (11, [.ref (ma 1), .ref (ma 2), .int 0, .long 0, .long 1, .ref (ma 3), .ref (ma 4), .ref (ma 5), .ref (ma 6), .ref (ma 7), .int 0, .int 0, .int 0, .int 0, .int 0, .int 0, .int (-1), .int (-1), .int 0, .int 0, .int 0, .ref (ma 8), .int 0, .int 0, .int (-1), .int 0, .int 0, .int 0, .ref (ma 9), .int 0, .int 0, .ref (ma 10), .ref (ma 11), .ref (ma 12), .int 0, .int 0]))]) [0] rfl
        have hDc := hD.sub (ws' := [(ma 0, .inr (11, [.ref (ma 1), .ref (ma 2), .int 0, .long 0, .long 1, .ref (ma 3), .ref (ma 4), .ref (ma 5), .ref (ma 6), .ref (ma 7), .int 0, .int 0, .int 0, .int 0, .int 0, .int 0, .int (-1), .int (-1), .int 0, .int 0, .int 0, .ref (ma 8), .int 0, .int 0, .int (-1), .int 0, .int 0, .int 0, .ref (ma 9), .int 0, .int 0, .ref (ma 10), .ref (ma 11), .ref (ma 12), .int 0, .int 0]))]) [0] (by decide) rfl
        have hFc := va_free (wc := [(ma 0, .inr (11, [.ref (ma 1), .ref (ma 2), .int 0, .long 0, .long 1, .ref (ma 3), .ref (ma 4), .ref (ma 5), .ref (ma 6), .ref (ma 7), .int 0, .int 0, .int 0, .int 0, .int 0, .int 0, .int (-1), .int (-1), .int 0, .int 0, .int 0, .ref (ma 8), .int 0, .int 0, .int (-1), .int 0, .int 0, .int 0, .ref (ma 9), .int 0, .int 0, .ref (ma 10), .ref (ma 11), .ref (ma 12), .int 0, .int 0]))]) hD hS hA [0] rfl
        refine va_calli (va_runV (As := [.int 1]) (rest := []) ⟨hx, hb, hml, hown, hts⟩ (m_refuse l D kc H.size ma 0 0 1 0 0 0 0 0 0 (-1) (-1) 0 0 0 0 0 (-1) 0 0 0 0 0 0 0 1) (cwV 1 hts gq_forecast_72_m_refuse rfl rfl rfl (by decide +kernel) ⟨Nat.le_of_ble_eq_true rfl, Nat.le_of_ble_eq_true rfl⟩) (preV_ok hPc hDc hE (ci := 11) (q0 := 0) rfl rfl) rfl rfl hl.1 rfl (lv_room (Nat.le_of_ble_eq_true rfl)) dX12_forecast_40 ⟨Nat.le_of_ble_eq_true rfl, Nat.le_of_ble_eq_true rfl⟩) hS (fun q _ h => hFc q h) hFc (fun r_40_3 u9 t9 H locs ht hvm hw hB hz1 hk1 hS => ?_)
        obtain ⟨hP1, hD1⟩ := hB
        rw [ht] at hP1
        obtain ⟨hP, hD⟩ := va_join (wr := [(ma 1, .inl (kc 0, 2880, .inl at0))]) (w1 := [(ma 0, .inr (11, [.ref (ma 1), .ref (ma 2), .int 1, .long 0, .long 1, .ref (ma 3), .ref (ma 4), .ref (ma 5), .ref (ma 6), .ref (ma 7), .int 0, .int 0, .int 0, .int 0, .int 0, .int 0, .int (-1), .int (-1), .int 0, .int 0, .int 0, .ref (ma 8), .int 0, .int 0, .int (-1), .int 0, .int 0, .int 0, .ref (ma 9), .int 0, .int 0, .ref (ma 10), .ref (ma 11), .ref (ma 12), .int 0, .int 0]))]) hP hD [0] [1] rfl rfl (by decide) (by decide) hk1 hFc hP1 hD1
        have hP : va_P D vwCl [(ma 1, .inl (kc 0, 2880, .inl at0)), (ma 0, .inr (11, [.ref (ma 1), .ref (ma 2), .int 1, .long 0, .long 1, .ref (ma 3), .ref (ma 4), .ref (ma 5), .ref (ma 6), .ref (ma 7), .int 0, .int 0, .int 0, .int 0, .int 0, .int 0, .int (-1), .int (-1), .int 0, .int 0, .int 0, .ref (ma 8), .int 0, .int 0, .int (-1), .int 0, .int 0, .int 0, .ref (ma 9), .int 0, .int 0, .ref (ma 10), .ref (ma 11), .ref (ma 12), .int 0, .int 0]))] H := hP
        have hD : va_D A [(ma 1, .inl (kc 0, 2880, .inl at0)), (ma 0, .inr (11, [.ref (ma 1), .ref (ma 2), .int 1, .long 0, .long 1, .ref (ma 3), .ref (ma 4), .ref (ma 5), .ref (ma 6), .ref (ma 7), .int 0, .int 0, .int 0, .int 0, .int 0, .int 0, .int (-1), .int (-1), .int 0, .int 0, .int 0, .ref (ma 8), .int 0, .int 0, .int (-1), .int 0, .int 0, .int 0, .ref (ma 9), .int 0, .int 0, .ref (ma 10), .ref (ma 11), .ref (ma 12), .int 0, .int 0]))] := hD
        subst hw
        exact W.iret (v := (-1)) hx hb hr (fun t9 ht hW => ⟨⟨(-1), (), rfl, rfl, trivial⟩, hS.F ht⟩) hS.2.2 dX12_forecast_43
theorem dX12_soonest_0 : decode cX12_soonest 0 = .ok (.aload_n 0, 1) := by decide +kernel
theorem dX12_soonest_1 : decode cX12_soonest 1 = .ok (.iload_n 1, 1) := by decide +kernel
theorem dX12_soonest_2 : decode cX12_soonest 2 = .ok (.invokevirtual 269, 3) := by decide +kernel
theorem dX12_soonest_5 : decode cX12_soonest 5 = .ok (.ifCond .ne 9, 3) := by decide +kernel
theorem dX12_soonest_8 : decode cX12_soonest 8 = .ok (.aload_n 0, 1) := by decide +kernel
theorem dX12_soonest_9 : decode cX12_soonest 9 = .ok (.iconst 1, 1) := by decide +kernel
theorem dX12_soonest_10 : decode cX12_soonest 10 = .ok (.invokevirtual 72, 3) := by decide +kernel
theorem dX12_soonest_13 : decode cX12_soonest 13 = .ok (.ireturn, 1) := by decide +kernel
def vdq_soonest : List Cond := [.code yX12_soonest cX12_soonest 3 (some .int), .methodLink RX12 269 yX12_isQuarrel, .code yX12_isQuarrel cX12_isQuarrel 2 (some .boolean), .fieldLink RX12 7 "SaltStreetModel" "at" "[I", .instanceMethod yX12_isQuarrel, .selects RX12 yX12_isQuarrel yX12_isQuarrel, .initialized RX12, .methodLink RX12 72 yX12_refuse, .code yX12_refuse cX12_refuse 2 (some .int), .fieldLink RX12 66 "SaltStreetModel" "status" "I", .instanceMethod yX12_refuse, .selects RX12 yX12_refuse yX12_refuse]
def vq_soonest : List Cond := vdq_soonest ++ (wsX120 ++ ([] : List Cond))
theorem iq_soonest_X12 : ∀ w ∈ wsX120, w ∈ vq_soonest := fun _ h => List.mem_append_right _ (List.mem_append_left _ h)
set_option maxRecDepth 20000 in
theorem gq_soonest_269_m_isQuarrel : GoodIn vq_soonest (wsV RX12 269 RX12 yX12_isQuarrel vm_isQuarrel) := (goodIn_app (goodIn_r _ [1, 4, 5, 6] rfl (by decide +kernel)) (goodIn_app (goodIn_r vdm_isQuarrel [2, 3] rfl (by decide +kernel)) (goodIn_app (goodIn_sub iq_soonest_X12 gdX12) goodIn_nil)))
set_option maxRecDepth 20000 in
theorem gq_soonest_72_m_refuse : GoodIn vq_soonest (wsV RX12 72 RX12 yX12_refuse vm_refuse) := (goodIn_app (goodIn_r _ [7, 10, 11, 6] rfl (by decide +kernel)) (goodIn_app (goodIn_r vdm_refuse [8, 9] rfl (by decide +kernel)) (goodIn_app (goodIn_sub iq_soonest_X12 gdX12) goodIn_nil)))
set_option maxHeartbeats 4000000 in
set_option maxRecDepth 100000 in
theorem q_soonest (l : Launch) (D : va_G) (kc : Nat → ClassId) (sz : Nat) (ma : Nat → Nat) (a0 : Int32) : Met l yX12_soonest vq_soonest ({ frames := 1, cells := 0, slots := 0, locals := 21 }) (va_Pc [.ref (ma 0), .int a0] (wPre D kc [(ma 0, .inr (11, [.ref (ma 1), .ref (ma 2), .int 0, .long 0, .long 1, .ref (ma 3), .ref (ma 4), .ref (ma 5), .ref (ma 6), .ref (ma 7), .int 0, .int 0, .int 0, .int 0, .int 0, .int 0, .int (-1), .int (-1), .int 0, .int 0, .int 0, .ref (ma 8), .int 0, .int 0, .int (-1), .int 0, .int 0, .int 0, .ref (ma 9), .int 0, .int 0, .ref (ma 10), .ref (ma 11), .ref (ma 12), .int 0, .int 0])), (ma 1, .inl (kc 0, 2880, .inl at0))] sz)) (va_Qi (fun (r : Int32) (_ : Unit) => r = (-1)) wAny (va_A [(ma 0, .inr (11, [.ref (ma 1), .ref (ma 2), .int 0, .long 0, .long 1, .ref (ma 3), .ref (ma 4), .ref (ma 5), .ref (ma 6), .ref (ma 7), .int 0, .int 0, .int 0, .int 0, .int 0, .int 0, .int (-1), .int (-1), .int 0, .int 0, .int 0, .ref (ma 8), .int 0, .int 0, .int (-1), .int 0, .int 0, .int 0, .ref (ma 9), .int 0, .int 0, .ref (ma 10), .ref (ma 11), .ref (ma 12), .int 0, .int 0])), (ma 1, .inl (kc 0, 2880, .inl at0))] sz)) 0 0 (va_A [(ma 0, .inr (11, [.ref (ma 1), .ref (ma 2), .int 0, .long 0, .long 1, .ref (ma 3), .ref (ma 4), .ref (ma 5), .ref (ma 6), .ref (ma 7), .int 0, .int 0, .int 0, .int 0, .int 0, .int 0, .int (-1), .int (-1), .int 0, .int 0, .int 0, .ref (ma 8), .int 0, .int 0, .int (-1), .int 0, .int 0, .int 0, .ref (ma 9), .int 0, .int 0, .ref (ma 10), .ref (ma 11), .ref (ma 12), .int 0, .int 0])), (ma 1, .inl (kc 0, 2880, .inl at0))] sz) := by
  refine Met.ofW (cc := cX12_soonest) (maxL := 3) (ret := (some .int)) (by decide) rfl ?_
  intro p e s m args below meth c s₁ B hml hv
  obtain ⟨rfl, hsz, hP, hE, hD0⟩ := hv
  have hx := B.exec
  have hb := B.bytes
  have hr := B.returns
  have hts := atoms_spec (ws := vq_soonest) B.pre
  have hown : s.vm.findClass RX12 = some m.cls := findClass_of_methodNamed B.named
  have hlocks := B.notSynchronized
  subst hsz
  have hD := hD0.self (sz := s.heap.size)
  generalize hAe : va_A [(ma 0, .inr (11, [.ref (ma 1), .ref (ma 2), .int 0, .long 0, .long 1, .ref (ma 3), .ref (ma 4), .ref (ma 5), .ref (ma 6), .ref (ma 7), .int 0, .int 0, .int 0, .int 0, .int 0, .int 0, .int (-1), .int (-1), .int 0, .int 0, .int 0, .ref (ma 8), .int 0, .int 0, .int (-1), .int 0, .int 0, .int 0, .ref (ma 9), .int 0, .int 0, .ref (ma 10), .ref (ma 11), .ref (ma 12), .int 0, .int 0])), (ma 1, .inl (kc 0, 2880, .inl at0))] s.heap.size = A at hD ⊢
  have hA : ∀ q : Nat, s.heap.size ≤ q → A q := fun q h => by rw [← hAe]; exact Or.inr h
  have hS : va_S A s.heap s.heap [] := va_S.rf
  have hK := hE.1
  have hP : va_P D vwCl [(ma 0, .inr (11, [.ref (ma 1), .ref (ma 2), .int 0, .long 0, .long 1, .ref (ma 3), .ref (ma 4), .ref (ma 5), .ref (ma 6), .ref (ma 7), .int 0, .int 0, .int 0, .int 0, .int 0, .int 0, .int (-1), .int (-1), .int 0, .int 0, .int 0, .ref (ma 8), .int 0, .int 0, .int (-1), .int 0, .int 0, .int 0, .ref (ma 9), .int 0, .int 0, .ref (ma 10), .ref (ma 11), .ref (ma 12), .int 0, .int 0])), (ma 1, .inl (kc 0, 2880, .inl at0))] s.heap := hP
  have hl := lv_entry ([.ref (ma 0), .int a0]) (n := 3) (Nat.le_of_ble_eq_true rfl)
  rw [lg_entry_eq]
  generalize (lg_sl ([.ref (ma 0), .int a0]) ++ List.replicate (3 - (lg_sl ([.ref (ma 0), .int a0])).length) Slot.unset).toArray = ls at hl ⊢
  have hl : lv_has ls 3 [(0, .ref (ma 0)), (1, .int a0)] := hl
  refine lv_aload_n hx hb dX12_soonest_0 rfl (lv_at hl 0 rfl) ?_
  refine lv_iload_n hx hb dX12_soonest_1 rfl (lv_at hl 1 rfl) ?_
  have hPc := hP.sub (ws' := [(ma 0, .inr (11, [.ref (ma 1), .ref (ma 2), .int 0, .long 0, .long 1, .ref (ma 3), .ref (ma 4), .ref (ma 5), .ref (ma 6), .ref (ma 7), .int 0, .int 0, .int 0, .int 0, .int 0, .int 0, .int (-1), .int (-1), .int 0, .int 0, .int 0, .ref (ma 8), .int 0, .int 0, .int (-1), .int 0, .int 0, .int 0, .ref (ma 9), .int 0, .int 0, .ref (ma 10), .ref (ma 11), .ref (ma 12), .int 0, .int 0])), (ma 1, .inl (kc 0, 2880, .inl at0))]) [0, 1] rfl
  have hDc := hD.sub (ws' := [(ma 0, .inr (11, [.ref (ma 1), .ref (ma 2), .int 0, .long 0, .long 1, .ref (ma 3), .ref (ma 4), .ref (ma 5), .ref (ma 6), .ref (ma 7), .int 0, .int 0, .int 0, .int 0, .int 0, .int 0, .int (-1), .int (-1), .int 0, .int 0, .int 0, .ref (ma 8), .int 0, .int 0, .int (-1), .int 0, .int 0, .int 0, .ref (ma 9), .int 0, .int 0, .ref (ma 10), .ref (ma 11), .ref (ma 12), .int 0, .int 0])), (ma 1, .inl (kc 0, 2880, .inl at0))]) [0, 1] (by decide) rfl
  have hFc := va_free (wc := [(ma 0, .inr (11, [.ref (ma 1), .ref (ma 2), .int 0, .long 0, .long 1, .ref (ma 3), .ref (ma 4), .ref (ma 5), .ref (ma 6), .ref (ma 7), .int 0, .int 0, .int 0, .int 0, .int 0, .int 0, .int (-1), .int (-1), .int 0, .int 0, .int 0, .ref (ma 8), .int 0, .int 0, .int (-1), .int 0, .int 0, .int 0, .ref (ma 9), .int 0, .int 0, .ref (ma 10), .ref (ma 11), .ref (ma 12), .int 0, .int 0])), (ma 1, .inl (kc 0, 2880, .inl at0))]) hD hS hA [0, 1] rfl
  refine va_calli (va_runV (As := [.int a0]) (rest := []) ⟨hx, hb, hml, hown, hts⟩ (m_isQuarrel l D kc s.heap.size ma a0) (cwV 1 hts gq_soonest_269_m_isQuarrel rfl rfl rfl (by decide +kernel) ⟨Nat.le_of_ble_eq_true rfl, Nat.le_of_ble_eq_true rfl⟩) (preV_ok hPc hDc hE (ci := 11) (q0 := 0) rfl rfl) rfl rfl hl.1 rfl (lv_room (Nat.le_of_ble_eq_true rfl)) dX12_soonest_2 ⟨Nat.le_of_ble_eq_true rfl, Nat.le_of_ble_eq_true rfl⟩) hS (fun q _ h => hFc q h) hFc (fun r_2 u9 t9 H locs ht hvm hw hB hz1 hk1 hS => ?_)
  obtain ⟨hP1, hD1⟩ := hB
  rw [ht] at hP1
  obtain ⟨hP, hD⟩ := va_join (wr := []) (w1 := [(ma 0, .inr (11, [.ref (ma 1), .ref (ma 2), .int 0, .long 0, .long 1, .ref (ma 3), .ref (ma 4), .ref (ma 5), .ref (ma 6), .ref (ma 7), .int 0, .int 0, .int 0, .int 0, .int 0, .int 0, .int (-1), .int (-1), .int 0, .int 0, .int 0, .ref (ma 8), .int 0, .int 0, .int (-1), .int 0, .int 0, .int 0, .ref (ma 9), .int 0, .int 0, .ref (ma 10), .ref (ma 11), .ref (ma 12), .int 0, .int 0])), (ma 1, .inl (kc 0, 2880, .inl at0))]) hP hD [0, 1] [] rfl rfl (by decide) (by decide) hk1 hFc hP1 hD1
  have hP : va_P D vwCl [(ma 0, .inr (11, [.ref (ma 1), .ref (ma 2), .int 0, .long 0, .long 1, .ref (ma 3), .ref (ma 4), .ref (ma 5), .ref (ma 6), .ref (ma 7), .int 0, .int 0, .int 0, .int 0, .int 0, .int 0, .int (-1), .int (-1), .int 0, .int 0, .int 0, .ref (ma 8), .int 0, .int 0, .int (-1), .int 0, .int 0, .int 0, .ref (ma 9), .int 0, .int 0, .ref (ma 10), .ref (ma 11), .ref (ma 12), .int 0, .int 0])), (ma 1, .inl (kc 0, 2880, .inl at0))] H := hP
  have hD : va_D A [(ma 0, .inr (11, [.ref (ma 1), .ref (ma 2), .int 0, .long 0, .long 1, .ref (ma 3), .ref (ma 4), .ref (ma 5), .ref (ma 6), .ref (ma 7), .int 0, .int 0, .int 0, .int 0, .int 0, .int 0, .int (-1), .int (-1), .int 0, .int 0, .int 0, .ref (ma 8), .int 0, .int 0, .int (-1), .int 0, .int 0, .int 0, .ref (ma 9), .int 0, .int 0, .ref (ma 10), .ref (ma 11), .ref (ma 12), .int 0, .int 0])), (ma 1, .inl (kc 0, 2880, .inl at0))] := hD
  subst hw
  refine lv_if_ne (tgt := 14) hx hb dX12_soonest_5 (by decide) (fun h => absurd (by decide) h) (fun _ => ?_)
  refine lv_aload_n hx hb dX12_soonest_8 rfl (lv_at hl 0 rfl) ?_
  refine lv_iconst (v := 1) hx hb dX12_soonest_9 (by decide) ?_
  have hPc := hP.sub (ws' := [(ma 0, .inr (11, [.ref (ma 1), .ref (ma 2), .int 0, .long 0, .long 1, .ref (ma 3), .ref (ma 4), .ref (ma 5), .ref (ma 6), .ref (ma 7), .int 0, .int 0, .int 0, .int 0, .int 0, .int 0, .int (-1), .int (-1), .int 0, .int 0, .int 0, .ref (ma 8), .int 0, .int 0, .int (-1), .int 0, .int 0, .int 0, .ref (ma 9), .int 0, .int 0, .ref (ma 10), .ref (ma 11), .ref (ma 12), .int 0, .int 0]))]) [0] rfl
  have hDc := hD.sub (ws' := [(ma 0, .inr (11, [.ref (ma 1), .ref (ma 2), .int 0, .long 0, .long 1, .ref (ma 3), .ref (ma 4), .ref (ma 5), .ref (ma 6), .ref (ma 7), .int 0, .int 0, .int 0, .int 0, .int 0, .int 0, .int (-1), .int (-1), .int 0, .int 0, .int 0, .ref (ma 8), .int 0, .int 0, .int (-1), .int 0, .int 0, .int 0, .ref (ma 9), .int 0, .int 0, .ref (ma 10), .ref (ma 11), .ref (ma 12), .int 0, .int 0]))]) [0] (by decide) rfl
  have hFc := va_free (wc := [(ma 0, .inr (11, [.ref (ma 1), .ref (ma 2), .int 0, .long 0, .long 1, .ref (ma 3), .ref (ma 4), .ref (ma 5), .ref (ma 6), .ref (ma 7), .int 0, .int 0, .int 0, .int 0, .int 0, .int 0, .int (-1), .int (-1), .int 0, .int 0, .int 0, .ref (ma 8), .int 0, .int 0, .int (-1), .int 0, .int 0, .int 0, .ref (ma 9), .int 0, .int 0, .ref (ma 10), .ref (ma 11), .ref (ma 12), .int 0, .int 0]))]) hD hS hA [0] rfl
  refine va_calli (va_runV (As := [.int 1]) (rest := []) ⟨hx, hb, hml, hown, hts⟩ (m_refuse l D kc H.size ma 0 0 1 0 0 0 0 0 0 (-1) (-1) 0 0 0 0 0 (-1) 0 0 0 0 0 0 0 1) (cwV 1 hts gq_soonest_72_m_refuse rfl rfl rfl (by decide +kernel) ⟨Nat.le_of_ble_eq_true rfl, Nat.le_of_ble_eq_true rfl⟩) (preV_ok hPc hDc hE (ci := 11) (q0 := 0) rfl rfl) rfl rfl hl.1 rfl (lv_room (Nat.le_of_ble_eq_true rfl)) dX12_soonest_10 ⟨Nat.le_of_ble_eq_true rfl, Nat.le_of_ble_eq_true rfl⟩) hS (fun q _ h => hFc q h) hFc (fun r_10 u9 t9 H locs ht hvm hw hB hz1 hk1 hS => ?_)
  obtain ⟨hP1, hD1⟩ := hB
  rw [ht] at hP1
  obtain ⟨hP, hD⟩ := va_join (wr := [(ma 1, .inl (kc 0, 2880, .inl at0))]) (w1 := [(ma 0, .inr (11, [.ref (ma 1), .ref (ma 2), .int 1, .long 0, .long 1, .ref (ma 3), .ref (ma 4), .ref (ma 5), .ref (ma 6), .ref (ma 7), .int 0, .int 0, .int 0, .int 0, .int 0, .int 0, .int (-1), .int (-1), .int 0, .int 0, .int 0, .ref (ma 8), .int 0, .int 0, .int (-1), .int 0, .int 0, .int 0, .ref (ma 9), .int 0, .int 0, .ref (ma 10), .ref (ma 11), .ref (ma 12), .int 0, .int 0]))]) hP hD [0] [1] rfl rfl (by decide) (by decide) hk1 hFc hP1 hD1
  have hP : va_P D vwCl [(ma 1, .inl (kc 0, 2880, .inl at0)), (ma 0, .inr (11, [.ref (ma 1), .ref (ma 2), .int 1, .long 0, .long 1, .ref (ma 3), .ref (ma 4), .ref (ma 5), .ref (ma 6), .ref (ma 7), .int 0, .int 0, .int 0, .int 0, .int 0, .int 0, .int (-1), .int (-1), .int 0, .int 0, .int 0, .ref (ma 8), .int 0, .int 0, .int (-1), .int 0, .int 0, .int 0, .ref (ma 9), .int 0, .int 0, .ref (ma 10), .ref (ma 11), .ref (ma 12), .int 0, .int 0]))] H := hP
  have hD : va_D A [(ma 1, .inl (kc 0, 2880, .inl at0)), (ma 0, .inr (11, [.ref (ma 1), .ref (ma 2), .int 1, .long 0, .long 1, .ref (ma 3), .ref (ma 4), .ref (ma 5), .ref (ma 6), .ref (ma 7), .int 0, .int 0, .int 0, .int 0, .int 0, .int 0, .int (-1), .int (-1), .int 0, .int 0, .int 0, .ref (ma 8), .int 0, .int 0, .int (-1), .int 0, .int 0, .int 0, .ref (ma 9), .int 0, .int 0, .ref (ma 10), .ref (ma 11), .ref (ma 12), .int 0, .int 0]))] := hD
  subst hw
  exact W.iret (v := (-1)) hx hb hr (fun t9 ht hW => ⟨⟨(-1), (), rfl, rfl, trivial⟩, hS.F ht⟩) hS.2.2 dX12_soonest_13
theorem dX12_thaw_0 : decode cX12_thaw 0 = .ok (.aload_n 0, 1) := by decide +kernel
theorem dX12_thaw_1 : decode cX12_thaw 1 = .ok (.iload_n 1, 1) := by decide +kernel
theorem dX12_thaw_2 : decode cX12_thaw 2 = .ok (.invokevirtual 263, 3) := by decide +kernel
theorem dX12_thaw_5 : decode cX12_thaw 5 = .ok (.istore_n 2, 1) := by decide +kernel
theorem dX12_thaw_6 : decode cX12_thaw 6 = .ok (.iload_n 2, 1) := by decide +kernel
theorem dX12_thaw_7 : decode cX12_thaw 7 = .ok (.ifCond .le 9, 3) := by decide +kernel
theorem dX12_thaw_10 : decode cX12_thaw 10 = .ok (.aload_n 0, 1) := by decide +kernel
theorem dX12_thaw_11 : decode cX12_thaw 11 = .ok (.iload_n 2, 1) := by decide +kernel
theorem dX12_thaw_12 : decode cX12_thaw 12 = .ok (.invokevirtual 72, 3) := by decide +kernel
theorem dX12_thaw_15 : decode cX12_thaw 15 = .ok (.ireturn, 1) := by decide +kernel
def vdq_thaw : List Cond := [.code yX12_thaw cX12_thaw 4 (some .int), .methodLink RX12 263 yX12_wrongStep, .code yX12_wrongStep cX12_wrongStep 2 (some .int), .methodLink RX12 251 yX12_isHouse, .code yX12_isHouse cX12_isHouse 2 (some .boolean), .fieldLink RX12 7 "SaltStreetModel" "at" "[I", .instanceMethod yX12_isHouse, .selects RX12 yX12_isHouse yX12_isHouse, .initialized RX12, .instanceMethod yX12_wrongStep, .selects RX12 yX12_wrongStep yX12_wrongStep, .methodLink RX12 72 yX12_refuse, .code yX12_refuse cX12_refuse 2 (some .int), .fieldLink RX12 66 "SaltStreetModel" "status" "I", .instanceMethod yX12_refuse, .selects RX12 yX12_refuse yX12_refuse]
def vq_thaw : List Cond := vdq_thaw ++ (wsX120 ++ ([] : List Cond))
theorem iq_thaw_X12 : ∀ w ∈ wsX120, w ∈ vq_thaw := fun _ h => List.mem_append_right _ (List.mem_append_left _ h)
set_option maxRecDepth 20000 in
theorem gq_thaw_263_m_wrongStep : GoodIn vq_thaw (wsV RX12 263 RX12 yX12_wrongStep vm_wrongStep) := (goodIn_app (goodIn_r _ [1, 9, 10, 8] rfl (by decide +kernel)) (goodIn_app (goodIn_r vdm_wrongStep [2, 3, 4, 5, 6, 7, 8] rfl (by decide +kernel)) (goodIn_app (goodIn_sub iq_thaw_X12 gdX12) goodIn_nil)))
set_option maxRecDepth 20000 in
theorem gq_thaw_72_m_refuse : GoodIn vq_thaw (wsV RX12 72 RX12 yX12_refuse vm_refuse) := (goodIn_app (goodIn_r _ [11, 14, 15, 8] rfl (by decide +kernel)) (goodIn_app (goodIn_r vdm_refuse [12, 13] rfl (by decide +kernel)) (goodIn_app (goodIn_sub iq_thaw_X12 gdX12) goodIn_nil)))
set_option maxHeartbeats 4000000 in
set_option maxRecDepth 100000 in
theorem q_thaw (l : Launch) (D : va_G) (kc : Nat → ClassId) (sz : Nat) (ma : Nat → Nat) (a0 : Int32) : Met l yX12_thaw vq_thaw ({ frames := 2, cells := 0, slots := 0, locals := 42 }) (va_Pc [.ref (ma 0), .int a0] (wPre D kc [(ma 0, .inr (11, [.ref (ma 1), .ref (ma 2), .int 0, .long 0, .long 1, .ref (ma 3), .ref (ma 4), .ref (ma 5), .ref (ma 6), .ref (ma 7), .int 0, .int 0, .int 0, .int 0, .int 0, .int 0, .int (-1), .int (-1), .int 0, .int 0, .int 0, .ref (ma 8), .int 0, .int 0, .int (-1), .int 0, .int 0, .int 0, .ref (ma 9), .int 0, .int 0, .ref (ma 10), .ref (ma 11), .ref (ma 12), .int 0, .int 0])), (ma 1, .inl (kc 0, 2880, .inl at0))] sz)) (va_Qi (fun (r : Int32) (_ : Unit) => r = (-1)) wAny (va_A [(ma 0, .inr (11, [.ref (ma 1), .ref (ma 2), .int 0, .long 0, .long 1, .ref (ma 3), .ref (ma 4), .ref (ma 5), .ref (ma 6), .ref (ma 7), .int 0, .int 0, .int 0, .int 0, .int 0, .int 0, .int (-1), .int (-1), .int 0, .int 0, .int 0, .ref (ma 8), .int 0, .int 0, .int (-1), .int 0, .int 0, .int 0, .ref (ma 9), .int 0, .int 0, .ref (ma 10), .ref (ma 11), .ref (ma 12), .int 0, .int 0])), (ma 1, .inl (kc 0, 2880, .inl at0))] sz)) 0 0 (va_A [(ma 0, .inr (11, [.ref (ma 1), .ref (ma 2), .int 0, .long 0, .long 1, .ref (ma 3), .ref (ma 4), .ref (ma 5), .ref (ma 6), .ref (ma 7), .int 0, .int 0, .int 0, .int 0, .int 0, .int 0, .int (-1), .int (-1), .int 0, .int 0, .int 0, .ref (ma 8), .int 0, .int 0, .int (-1), .int 0, .int 0, .int 0, .ref (ma 9), .int 0, .int 0, .ref (ma 10), .ref (ma 11), .ref (ma 12), .int 0, .int 0])), (ma 1, .inl (kc 0, 2880, .inl at0))] sz) := by
  refine Met.ofW (cc := cX12_thaw) (maxL := 4) (ret := (some .int)) (by decide) rfl ?_
  intro p e s m args below meth c s₁ B hml hv
  obtain ⟨rfl, hsz, hP, hE, hD0⟩ := hv
  have hx := B.exec
  have hb := B.bytes
  have hr := B.returns
  have hts := atoms_spec (ws := vq_thaw) B.pre
  have hown : s.vm.findClass RX12 = some m.cls := findClass_of_methodNamed B.named
  have hlocks := B.notSynchronized
  subst hsz
  have hD := hD0.self (sz := s.heap.size)
  generalize hAe : va_A [(ma 0, .inr (11, [.ref (ma 1), .ref (ma 2), .int 0, .long 0, .long 1, .ref (ma 3), .ref (ma 4), .ref (ma 5), .ref (ma 6), .ref (ma 7), .int 0, .int 0, .int 0, .int 0, .int 0, .int 0, .int (-1), .int (-1), .int 0, .int 0, .int 0, .ref (ma 8), .int 0, .int 0, .int (-1), .int 0, .int 0, .int 0, .ref (ma 9), .int 0, .int 0, .ref (ma 10), .ref (ma 11), .ref (ma 12), .int 0, .int 0])), (ma 1, .inl (kc 0, 2880, .inl at0))] s.heap.size = A at hD ⊢
  have hA : ∀ q : Nat, s.heap.size ≤ q → A q := fun q h => by rw [← hAe]; exact Or.inr h
  have hS : va_S A s.heap s.heap [] := va_S.rf
  have hK := hE.1
  have hP : va_P D vwCl [(ma 0, .inr (11, [.ref (ma 1), .ref (ma 2), .int 0, .long 0, .long 1, .ref (ma 3), .ref (ma 4), .ref (ma 5), .ref (ma 6), .ref (ma 7), .int 0, .int 0, .int 0, .int 0, .int 0, .int 0, .int (-1), .int (-1), .int 0, .int 0, .int 0, .ref (ma 8), .int 0, .int 0, .int (-1), .int 0, .int 0, .int 0, .ref (ma 9), .int 0, .int 0, .ref (ma 10), .ref (ma 11), .ref (ma 12), .int 0, .int 0])), (ma 1, .inl (kc 0, 2880, .inl at0))] s.heap := hP
  have hl := lv_entry ([.ref (ma 0), .int a0]) (n := 4) (Nat.le_of_ble_eq_true rfl)
  rw [lg_entry_eq]
  generalize (lg_sl ([.ref (ma 0), .int a0]) ++ List.replicate (4 - (lg_sl ([.ref (ma 0), .int a0])).length) Slot.unset).toArray = ls at hl ⊢
  have hl : lv_has ls 4 [(0, .ref (ma 0)), (1, .int a0)] := hl
  refine lv_aload_n hx hb dX12_thaw_0 rfl (lv_at hl 0 rfl) ?_
  refine lv_iload_n hx hb dX12_thaw_1 rfl (lv_at hl 1 rfl) ?_
  have hPc := hP.sub (ws' := [(ma 0, .inr (11, [.ref (ma 1), .ref (ma 2), .int 0, .long 0, .long 1, .ref (ma 3), .ref (ma 4), .ref (ma 5), .ref (ma 6), .ref (ma 7), .int 0, .int 0, .int 0, .int 0, .int 0, .int 0, .int (-1), .int (-1), .int 0, .int 0, .int 0, .ref (ma 8), .int 0, .int 0, .int (-1), .int 0, .int 0, .int 0, .ref (ma 9), .int 0, .int 0, .ref (ma 10), .ref (ma 11), .ref (ma 12), .int 0, .int 0])), (ma 1, .inl (kc 0, 2880, .inl at0))]) [0, 1] rfl
  have hDc := hD.sub (ws' := [(ma 0, .inr (11, [.ref (ma 1), .ref (ma 2), .int 0, .long 0, .long 1, .ref (ma 3), .ref (ma 4), .ref (ma 5), .ref (ma 6), .ref (ma 7), .int 0, .int 0, .int 0, .int 0, .int 0, .int 0, .int (-1), .int (-1), .int 0, .int 0, .int 0, .ref (ma 8), .int 0, .int 0, .int (-1), .int 0, .int 0, .int 0, .ref (ma 9), .int 0, .int 0, .ref (ma 10), .ref (ma 11), .ref (ma 12), .int 0, .int 0])), (ma 1, .inl (kc 0, 2880, .inl at0))]) [0, 1] (by decide) rfl
  have hFc := va_free (wc := [(ma 0, .inr (11, [.ref (ma 1), .ref (ma 2), .int 0, .long 0, .long 1, .ref (ma 3), .ref (ma 4), .ref (ma 5), .ref (ma 6), .ref (ma 7), .int 0, .int 0, .int 0, .int 0, .int 0, .int 0, .int (-1), .int (-1), .int 0, .int 0, .int 0, .ref (ma 8), .int 0, .int 0, .int (-1), .int 0, .int 0, .int 0, .ref (ma 9), .int 0, .int 0, .ref (ma 10), .ref (ma 11), .ref (ma 12), .int 0, .int 0])), (ma 1, .inl (kc 0, 2880, .inl at0))]) hD hS hA [0, 1] rfl
  refine va_calli (va_runV (As := [.int a0]) (rest := []) ⟨hx, hb, hml, hown, hts⟩ (m_wrongStep l D kc s.heap.size ma a0) (cwV 1 hts gq_thaw_263_m_wrongStep rfl rfl rfl (by decide +kernel) ⟨Nat.le_of_ble_eq_true rfl, Nat.le_of_ble_eq_true rfl⟩) (preV_ok hPc hDc hE (ci := 11) (q0 := 0) rfl rfl) rfl rfl hl.1 rfl (lv_room (Nat.le_of_ble_eq_true rfl)) dX12_thaw_2 ⟨Nat.le_of_ble_eq_true rfl, Nat.le_of_ble_eq_true rfl⟩) hS (fun q _ h => hFc q h) hFc (fun r_2 u9 t9 H locs ht hvm hw hB hz1 hk1 hS => ?_)
  obtain ⟨hP1, hD1⟩ := hB
  rw [ht] at hP1
  obtain ⟨hP, hD⟩ := va_join (wr := []) (w1 := [(ma 0, .inr (11, [.ref (ma 1), .ref (ma 2), .int 0, .long 0, .long 1, .ref (ma 3), .ref (ma 4), .ref (ma 5), .ref (ma 6), .ref (ma 7), .int 0, .int 0, .int 0, .int 0, .int 0, .int 0, .int (-1), .int (-1), .int 0, .int 0, .int 0, .ref (ma 8), .int 0, .int 0, .int (-1), .int 0, .int 0, .int 0, .ref (ma 9), .int 0, .int 0, .ref (ma 10), .ref (ma 11), .ref (ma 12), .int 0, .int 0])), (ma 1, .inl (kc 0, 2880, .inl at0))]) hP hD [0, 1] [] rfl rfl (by decide) (by decide) hk1 hFc hP1 hD1
  have hP : va_P D vwCl [(ma 0, .inr (11, [.ref (ma 1), .ref (ma 2), .int 0, .long 0, .long 1, .ref (ma 3), .ref (ma 4), .ref (ma 5), .ref (ma 6), .ref (ma 7), .int 0, .int 0, .int 0, .int 0, .int 0, .int 0, .int (-1), .int (-1), .int 0, .int 0, .int 0, .ref (ma 8), .int 0, .int 0, .int (-1), .int 0, .int 0, .int 0, .ref (ma 9), .int 0, .int 0, .ref (ma 10), .ref (ma 11), .ref (ma 12), .int 0, .int 0])), (ma 1, .inl (kc 0, 2880, .inl at0))] H := hP
  have hD : va_D A [(ma 0, .inr (11, [.ref (ma 1), .ref (ma 2), .int 0, .long 0, .long 1, .ref (ma 3), .ref (ma 4), .ref (ma 5), .ref (ma 6), .ref (ma 7), .int 0, .int 0, .int 0, .int 0, .int 0, .int 0, .int (-1), .int (-1), .int 0, .int 0, .int 0, .ref (ma 8), .int 0, .int 0, .int (-1), .int 0, .int 0, .int 0, .ref (ma 9), .int 0, .int 0, .ref (ma 10), .ref (ma 11), .ref (ma 12), .int 0, .int 0])), (ma 1, .inl (kc 0, 2880, .inl at0))] := hD
  subst hw
  refine lv_istore_n (lv' := [(2, .int 1), (0, .ref (ma 0)), (1, .int a0)]) hx hb dX12_thaw_5 rfl hl (by decide) rfl (fun ls hl => ?_)
  refine lv_iload_n hx hb dX12_thaw_6 rfl (lv_at hl 0 rfl) ?_
  refine lv_if_le (tgt := 16) hx hb dX12_thaw_7 (by decide) (fun h => absurd h (by decide)) (fun _ => ?_)
  refine lv_aload_n hx hb dX12_thaw_10 rfl (lv_at hl 1 rfl) ?_
  refine lv_iload_n hx hb dX12_thaw_11 rfl (lv_at hl 0 rfl) ?_
  have hPc := hP.sub (ws' := [(ma 0, .inr (11, [.ref (ma 1), .ref (ma 2), .int 0, .long 0, .long 1, .ref (ma 3), .ref (ma 4), .ref (ma 5), .ref (ma 6), .ref (ma 7), .int 0, .int 0, .int 0, .int 0, .int 0, .int 0, .int (-1), .int (-1), .int 0, .int 0, .int 0, .ref (ma 8), .int 0, .int 0, .int (-1), .int 0, .int 0, .int 0, .ref (ma 9), .int 0, .int 0, .ref (ma 10), .ref (ma 11), .ref (ma 12), .int 0, .int 0]))]) [0] rfl
  have hDc := hD.sub (ws' := [(ma 0, .inr (11, [.ref (ma 1), .ref (ma 2), .int 0, .long 0, .long 1, .ref (ma 3), .ref (ma 4), .ref (ma 5), .ref (ma 6), .ref (ma 7), .int 0, .int 0, .int 0, .int 0, .int 0, .int 0, .int (-1), .int (-1), .int 0, .int 0, .int 0, .ref (ma 8), .int 0, .int 0, .int (-1), .int 0, .int 0, .int 0, .ref (ma 9), .int 0, .int 0, .ref (ma 10), .ref (ma 11), .ref (ma 12), .int 0, .int 0]))]) [0] (by decide) rfl
  have hFc := va_free (wc := [(ma 0, .inr (11, [.ref (ma 1), .ref (ma 2), .int 0, .long 0, .long 1, .ref (ma 3), .ref (ma 4), .ref (ma 5), .ref (ma 6), .ref (ma 7), .int 0, .int 0, .int 0, .int 0, .int 0, .int 0, .int (-1), .int (-1), .int 0, .int 0, .int 0, .ref (ma 8), .int 0, .int 0, .int (-1), .int 0, .int 0, .int 0, .ref (ma 9), .int 0, .int 0, .ref (ma 10), .ref (ma 11), .ref (ma 12), .int 0, .int 0]))]) hD hS hA [0] rfl
  refine va_calli (va_runV (As := [.int 1]) (rest := []) ⟨hx, hb, hml, hown, hts⟩ (m_refuse l D kc H.size ma 0 0 1 0 0 0 0 0 0 (-1) (-1) 0 0 0 0 0 (-1) 0 0 0 0 0 0 0 1) (cwV 1 hts gq_thaw_72_m_refuse rfl rfl rfl (by decide +kernel) ⟨Nat.le_of_ble_eq_true rfl, Nat.le_of_ble_eq_true rfl⟩) (preV_ok hPc hDc hE (ci := 11) (q0 := 0) rfl rfl) rfl rfl hl.1 rfl (lv_room (Nat.le_of_ble_eq_true rfl)) dX12_thaw_12 ⟨Nat.le_of_ble_eq_true rfl, Nat.le_of_ble_eq_true rfl⟩) hS (fun q _ h => hFc q h) hFc (fun r_12 u9 t9 H locs ht hvm hw hB hz1 hk1 hS => ?_)
  obtain ⟨hP1, hD1⟩ := hB
  rw [ht] at hP1
  obtain ⟨hP, hD⟩ := va_join (wr := [(ma 1, .inl (kc 0, 2880, .inl at0))]) (w1 := [(ma 0, .inr (11, [.ref (ma 1), .ref (ma 2), .int 1, .long 0, .long 1, .ref (ma 3), .ref (ma 4), .ref (ma 5), .ref (ma 6), .ref (ma 7), .int 0, .int 0, .int 0, .int 0, .int 0, .int 0, .int (-1), .int (-1), .int 0, .int 0, .int 0, .ref (ma 8), .int 0, .int 0, .int (-1), .int 0, .int 0, .int 0, .ref (ma 9), .int 0, .int 0, .ref (ma 10), .ref (ma 11), .ref (ma 12), .int 0, .int 0]))]) hP hD [0] [1] rfl rfl (by decide) (by decide) hk1 hFc hP1 hD1
  have hP : va_P D vwCl [(ma 1, .inl (kc 0, 2880, .inl at0)), (ma 0, .inr (11, [.ref (ma 1), .ref (ma 2), .int 1, .long 0, .long 1, .ref (ma 3), .ref (ma 4), .ref (ma 5), .ref (ma 6), .ref (ma 7), .int 0, .int 0, .int 0, .int 0, .int 0, .int 0, .int (-1), .int (-1), .int 0, .int 0, .int 0, .ref (ma 8), .int 0, .int 0, .int (-1), .int 0, .int 0, .int 0, .ref (ma 9), .int 0, .int 0, .ref (ma 10), .ref (ma 11), .ref (ma 12), .int 0, .int 0]))] H := hP
  have hD : va_D A [(ma 1, .inl (kc 0, 2880, .inl at0)), (ma 0, .inr (11, [.ref (ma 1), .ref (ma 2), .int 1, .long 0, .long 1, .ref (ma 3), .ref (ma 4), .ref (ma 5), .ref (ma 6), .ref (ma 7), .int 0, .int 0, .int 0, .int 0, .int 0, .int 0, .int (-1), .int (-1), .int 0, .int 0, .int 0, .ref (ma 8), .int 0, .int 0, .int (-1), .int 0, .int 0, .int 0, .ref (ma 9), .int 0, .int 0, .ref (ma 10), .ref (ma 11), .ref (ma 12), .int 0, .int 0]))] := hD
  subst hw
  exact W.iret (v := (-1)) hx hb hr (fun t9 ht hW => ⟨⟨(-1), (), rfl, rfl, trivial⟩, hS.F ht⟩) hS.2.2 dX12_thaw_15
theorem dX12_wants_0 : decode cX12_wants 0 = .ok (.aload_n 0, 1) := by decide +kernel
theorem dX12_wants_1 : decode cX12_wants 1 = .ok (.iload_n 1, 1) := by decide +kernel
theorem dX12_wants_2 : decode cX12_wants 2 = .ok (.invokevirtual 263, 3) := by decide +kernel
theorem dX12_wants_5 : decode cX12_wants 5 = .ok (.istore_n 2, 1) := by decide +kernel
theorem dX12_wants_6 : decode cX12_wants 6 = .ok (.iload_n 2, 1) := by decide +kernel
theorem dX12_wants_7 : decode cX12_wants 7 = .ok (.ifCond .le 9, 3) := by decide +kernel
theorem dX12_wants_10 : decode cX12_wants 10 = .ok (.aload_n 0, 1) := by decide +kernel
theorem dX12_wants_11 : decode cX12_wants 11 = .ok (.iload_n 2, 1) := by decide +kernel
theorem dX12_wants_12 : decode cX12_wants 12 = .ok (.invokevirtual 72, 3) := by decide +kernel
theorem dX12_wants_15 : decode cX12_wants 15 = .ok (.ireturn, 1) := by decide +kernel
def vdq_wants : List Cond := [.code yX12_wants cX12_wants 6 (some .int), .methodLink RX12 263 yX12_wrongStep, .code yX12_wrongStep cX12_wrongStep 2 (some .int), .methodLink RX12 251 yX12_isHouse, .code yX12_isHouse cX12_isHouse 2 (some .boolean), .fieldLink RX12 7 "SaltStreetModel" "at" "[I", .instanceMethod yX12_isHouse, .selects RX12 yX12_isHouse yX12_isHouse, .initialized RX12, .instanceMethod yX12_wrongStep, .selects RX12 yX12_wrongStep yX12_wrongStep, .methodLink RX12 72 yX12_refuse, .code yX12_refuse cX12_refuse 2 (some .int), .fieldLink RX12 66 "SaltStreetModel" "status" "I", .instanceMethod yX12_refuse, .selects RX12 yX12_refuse yX12_refuse]
def vq_wants : List Cond := vdq_wants ++ (wsX120 ++ ([] : List Cond))
theorem iq_wants_X12 : ∀ w ∈ wsX120, w ∈ vq_wants := fun _ h => List.mem_append_right _ (List.mem_append_left _ h)
set_option maxRecDepth 20000 in
theorem gq_wants_263_m_wrongStep : GoodIn vq_wants (wsV RX12 263 RX12 yX12_wrongStep vm_wrongStep) := (goodIn_app (goodIn_r _ [1, 9, 10, 8] rfl (by decide +kernel)) (goodIn_app (goodIn_r vdm_wrongStep [2, 3, 4, 5, 6, 7, 8] rfl (by decide +kernel)) (goodIn_app (goodIn_sub iq_wants_X12 gdX12) goodIn_nil)))
set_option maxRecDepth 20000 in
theorem gq_wants_72_m_refuse : GoodIn vq_wants (wsV RX12 72 RX12 yX12_refuse vm_refuse) := (goodIn_app (goodIn_r _ [11, 14, 15, 8] rfl (by decide +kernel)) (goodIn_app (goodIn_r vdm_refuse [12, 13] rfl (by decide +kernel)) (goodIn_app (goodIn_sub iq_wants_X12 gdX12) goodIn_nil)))
set_option maxHeartbeats 4000000 in
set_option maxRecDepth 100000 in
theorem q_wants (l : Launch) (D : va_G) (kc : Nat → ClassId) (sz : Nat) (ma : Nat → Nat) (a0 : Int32) : Met l yX12_wants vq_wants ({ frames := 2, cells := 0, slots := 0, locals := 42 }) (va_Pc [.ref (ma 0), .int a0] (wPre D kc [(ma 0, .inr (11, [.ref (ma 1), .ref (ma 2), .int 0, .long 0, .long 1, .ref (ma 3), .ref (ma 4), .ref (ma 5), .ref (ma 6), .ref (ma 7), .int 0, .int 0, .int 0, .int 0, .int 0, .int 0, .int (-1), .int (-1), .int 0, .int 0, .int 0, .ref (ma 8), .int 0, .int 0, .int (-1), .int 0, .int 0, .int 0, .ref (ma 9), .int 0, .int 0, .ref (ma 10), .ref (ma 11), .ref (ma 12), .int 0, .int 0])), (ma 1, .inl (kc 0, 2880, .inl at0))] sz)) (va_Qi (fun (r : Int32) (_ : Unit) => r = (-1)) wAny (va_A [(ma 0, .inr (11, [.ref (ma 1), .ref (ma 2), .int 0, .long 0, .long 1, .ref (ma 3), .ref (ma 4), .ref (ma 5), .ref (ma 6), .ref (ma 7), .int 0, .int 0, .int 0, .int 0, .int 0, .int 0, .int (-1), .int (-1), .int 0, .int 0, .int 0, .ref (ma 8), .int 0, .int 0, .int (-1), .int 0, .int 0, .int 0, .ref (ma 9), .int 0, .int 0, .ref (ma 10), .ref (ma 11), .ref (ma 12), .int 0, .int 0])), (ma 1, .inl (kc 0, 2880, .inl at0))] sz)) 0 0 (va_A [(ma 0, .inr (11, [.ref (ma 1), .ref (ma 2), .int 0, .long 0, .long 1, .ref (ma 3), .ref (ma 4), .ref (ma 5), .ref (ma 6), .ref (ma 7), .int 0, .int 0, .int 0, .int 0, .int 0, .int 0, .int (-1), .int (-1), .int 0, .int 0, .int 0, .ref (ma 8), .int 0, .int 0, .int (-1), .int 0, .int 0, .int 0, .ref (ma 9), .int 0, .int 0, .ref (ma 10), .ref (ma 11), .ref (ma 12), .int 0, .int 0])), (ma 1, .inl (kc 0, 2880, .inl at0))] sz) := by
  refine Met.ofW (cc := cX12_wants) (maxL := 6) (ret := (some .int)) (by decide) rfl ?_
  intro p e s m args below meth c s₁ B hml hv
  obtain ⟨rfl, hsz, hP, hE, hD0⟩ := hv
  have hx := B.exec
  have hb := B.bytes
  have hr := B.returns
  have hts := atoms_spec (ws := vq_wants) B.pre
  have hown : s.vm.findClass RX12 = some m.cls := findClass_of_methodNamed B.named
  have hlocks := B.notSynchronized
  subst hsz
  have hD := hD0.self (sz := s.heap.size)
  generalize hAe : va_A [(ma 0, .inr (11, [.ref (ma 1), .ref (ma 2), .int 0, .long 0, .long 1, .ref (ma 3), .ref (ma 4), .ref (ma 5), .ref (ma 6), .ref (ma 7), .int 0, .int 0, .int 0, .int 0, .int 0, .int 0, .int (-1), .int (-1), .int 0, .int 0, .int 0, .ref (ma 8), .int 0, .int 0, .int (-1), .int 0, .int 0, .int 0, .ref (ma 9), .int 0, .int 0, .ref (ma 10), .ref (ma 11), .ref (ma 12), .int 0, .int 0])), (ma 1, .inl (kc 0, 2880, .inl at0))] s.heap.size = A at hD ⊢
  have hA : ∀ q : Nat, s.heap.size ≤ q → A q := fun q h => by rw [← hAe]; exact Or.inr h
  have hS : va_S A s.heap s.heap [] := va_S.rf
  have hK := hE.1
  have hP : va_P D vwCl [(ma 0, .inr (11, [.ref (ma 1), .ref (ma 2), .int 0, .long 0, .long 1, .ref (ma 3), .ref (ma 4), .ref (ma 5), .ref (ma 6), .ref (ma 7), .int 0, .int 0, .int 0, .int 0, .int 0, .int 0, .int (-1), .int (-1), .int 0, .int 0, .int 0, .ref (ma 8), .int 0, .int 0, .int (-1), .int 0, .int 0, .int 0, .ref (ma 9), .int 0, .int 0, .ref (ma 10), .ref (ma 11), .ref (ma 12), .int 0, .int 0])), (ma 1, .inl (kc 0, 2880, .inl at0))] s.heap := hP
  have hl := lv_entry ([.ref (ma 0), .int a0]) (n := 6) (Nat.le_of_ble_eq_true rfl)
  rw [lg_entry_eq]
  generalize (lg_sl ([.ref (ma 0), .int a0]) ++ List.replicate (6 - (lg_sl ([.ref (ma 0), .int a0])).length) Slot.unset).toArray = ls at hl ⊢
  have hl : lv_has ls 6 [(0, .ref (ma 0)), (1, .int a0)] := hl
  refine lv_aload_n hx hb dX12_wants_0 rfl (lv_at hl 0 rfl) ?_
  refine lv_iload_n hx hb dX12_wants_1 rfl (lv_at hl 1 rfl) ?_
  have hPc := hP.sub (ws' := [(ma 0, .inr (11, [.ref (ma 1), .ref (ma 2), .int 0, .long 0, .long 1, .ref (ma 3), .ref (ma 4), .ref (ma 5), .ref (ma 6), .ref (ma 7), .int 0, .int 0, .int 0, .int 0, .int 0, .int 0, .int (-1), .int (-1), .int 0, .int 0, .int 0, .ref (ma 8), .int 0, .int 0, .int (-1), .int 0, .int 0, .int 0, .ref (ma 9), .int 0, .int 0, .ref (ma 10), .ref (ma 11), .ref (ma 12), .int 0, .int 0])), (ma 1, .inl (kc 0, 2880, .inl at0))]) [0, 1] rfl
  have hDc := hD.sub (ws' := [(ma 0, .inr (11, [.ref (ma 1), .ref (ma 2), .int 0, .long 0, .long 1, .ref (ma 3), .ref (ma 4), .ref (ma 5), .ref (ma 6), .ref (ma 7), .int 0, .int 0, .int 0, .int 0, .int 0, .int 0, .int (-1), .int (-1), .int 0, .int 0, .int 0, .ref (ma 8), .int 0, .int 0, .int (-1), .int 0, .int 0, .int 0, .ref (ma 9), .int 0, .int 0, .ref (ma 10), .ref (ma 11), .ref (ma 12), .int 0, .int 0])), (ma 1, .inl (kc 0, 2880, .inl at0))]) [0, 1] (by decide) rfl
  have hFc := va_free (wc := [(ma 0, .inr (11, [.ref (ma 1), .ref (ma 2), .int 0, .long 0, .long 1, .ref (ma 3), .ref (ma 4), .ref (ma 5), .ref (ma 6), .ref (ma 7), .int 0, .int 0, .int 0, .int 0, .int 0, .int 0, .int (-1), .int (-1), .int 0, .int 0, .int 0, .ref (ma 8), .int 0, .int 0, .int (-1), .int 0, .int 0, .int 0, .ref (ma 9), .int 0, .int 0, .ref (ma 10), .ref (ma 11), .ref (ma 12), .int 0, .int 0])), (ma 1, .inl (kc 0, 2880, .inl at0))]) hD hS hA [0, 1] rfl
  refine va_calli (va_runV (As := [.int a0]) (rest := []) ⟨hx, hb, hml, hown, hts⟩ (m_wrongStep l D kc s.heap.size ma a0) (cwV 1 hts gq_wants_263_m_wrongStep rfl rfl rfl (by decide +kernel) ⟨Nat.le_of_ble_eq_true rfl, Nat.le_of_ble_eq_true rfl⟩) (preV_ok hPc hDc hE (ci := 11) (q0 := 0) rfl rfl) rfl rfl hl.1 rfl (lv_room (Nat.le_of_ble_eq_true rfl)) dX12_wants_2 ⟨Nat.le_of_ble_eq_true rfl, Nat.le_of_ble_eq_true rfl⟩) hS (fun q _ h => hFc q h) hFc (fun r_2 u9 t9 H locs ht hvm hw hB hz1 hk1 hS => ?_)
  obtain ⟨hP1, hD1⟩ := hB
  rw [ht] at hP1
  obtain ⟨hP, hD⟩ := va_join (wr := []) (w1 := [(ma 0, .inr (11, [.ref (ma 1), .ref (ma 2), .int 0, .long 0, .long 1, .ref (ma 3), .ref (ma 4), .ref (ma 5), .ref (ma 6), .ref (ma 7), .int 0, .int 0, .int 0, .int 0, .int 0, .int 0, .int (-1), .int (-1), .int 0, .int 0, .int 0, .ref (ma 8), .int 0, .int 0, .int (-1), .int 0, .int 0, .int 0, .ref (ma 9), .int 0, .int 0, .ref (ma 10), .ref (ma 11), .ref (ma 12), .int 0, .int 0])), (ma 1, .inl (kc 0, 2880, .inl at0))]) hP hD [0, 1] [] rfl rfl (by decide) (by decide) hk1 hFc hP1 hD1
  have hP : va_P D vwCl [(ma 0, .inr (11, [.ref (ma 1), .ref (ma 2), .int 0, .long 0, .long 1, .ref (ma 3), .ref (ma 4), .ref (ma 5), .ref (ma 6), .ref (ma 7), .int 0, .int 0, .int 0, .int 0, .int 0, .int 0, .int (-1), .int (-1), .int 0, .int 0, .int 0, .ref (ma 8), .int 0, .int 0, .int (-1), .int 0, .int 0, .int 0, .ref (ma 9), .int 0, .int 0, .ref (ma 10), .ref (ma 11), .ref (ma 12), .int 0, .int 0])), (ma 1, .inl (kc 0, 2880, .inl at0))] H := hP
  have hD : va_D A [(ma 0, .inr (11, [.ref (ma 1), .ref (ma 2), .int 0, .long 0, .long 1, .ref (ma 3), .ref (ma 4), .ref (ma 5), .ref (ma 6), .ref (ma 7), .int 0, .int 0, .int 0, .int 0, .int 0, .int 0, .int (-1), .int (-1), .int 0, .int 0, .int 0, .ref (ma 8), .int 0, .int 0, .int (-1), .int 0, .int 0, .int 0, .ref (ma 9), .int 0, .int 0, .ref (ma 10), .ref (ma 11), .ref (ma 12), .int 0, .int 0])), (ma 1, .inl (kc 0, 2880, .inl at0))] := hD
  subst hw
  refine lv_istore_n (lv' := [(2, .int 1), (0, .ref (ma 0)), (1, .int a0)]) hx hb dX12_wants_5 rfl hl (by decide) rfl (fun ls hl => ?_)
  refine lv_iload_n hx hb dX12_wants_6 rfl (lv_at hl 0 rfl) ?_
  refine lv_if_le (tgt := 16) hx hb dX12_wants_7 (by decide) (fun h => absurd h (by decide)) (fun _ => ?_)
  refine lv_aload_n hx hb dX12_wants_10 rfl (lv_at hl 1 rfl) ?_
  refine lv_iload_n hx hb dX12_wants_11 rfl (lv_at hl 0 rfl) ?_
  have hPc := hP.sub (ws' := [(ma 0, .inr (11, [.ref (ma 1), .ref (ma 2), .int 0, .long 0, .long 1, .ref (ma 3), .ref (ma 4), .ref (ma 5), .ref (ma 6), .ref (ma 7), .int 0, .int 0, .int 0, .int 0, .int 0, .int 0, .int (-1), .int (-1), .int 0, .int 0, .int 0, .ref (ma 8), .int 0, .int 0, .int (-1), .int 0, .int 0, .int 0, .ref (ma 9), .int 0, .int 0, .ref (ma 10), .ref (ma 11), .ref (ma 12), .int 0, .int 0]))]) [0] rfl
  have hDc := hD.sub (ws' := [(ma 0, .inr (11, [.ref (ma 1), .ref (ma 2), .int 0, .long 0, .long 1, .ref (ma 3), .ref (ma 4), .ref (ma 5), .ref (ma 6), .ref (ma 7), .int 0, .int 0, .int 0, .int 0, .int 0, .int 0, .int (-1), .int (-1), .int 0, .int 0, .int 0, .ref (ma 8), .int 0, .int 0, .int (-1), .int 0, .int 0, .int 0, .ref (ma 9), .int 0, .int 0, .ref (ma 10), .ref (ma 11), .ref (ma 12), .int 0, .int 0]))]) [0] (by decide) rfl
  have hFc := va_free (wc := [(ma 0, .inr (11, [.ref (ma 1), .ref (ma 2), .int 0, .long 0, .long 1, .ref (ma 3), .ref (ma 4), .ref (ma 5), .ref (ma 6), .ref (ma 7), .int 0, .int 0, .int 0, .int 0, .int 0, .int 0, .int (-1), .int (-1), .int 0, .int 0, .int 0, .ref (ma 8), .int 0, .int 0, .int (-1), .int 0, .int 0, .int 0, .ref (ma 9), .int 0, .int 0, .ref (ma 10), .ref (ma 11), .ref (ma 12), .int 0, .int 0]))]) hD hS hA [0] rfl
  refine va_calli (va_runV (As := [.int 1]) (rest := []) ⟨hx, hb, hml, hown, hts⟩ (m_refuse l D kc H.size ma 0 0 1 0 0 0 0 0 0 (-1) (-1) 0 0 0 0 0 (-1) 0 0 0 0 0 0 0 1) (cwV 1 hts gq_wants_72_m_refuse rfl rfl rfl (by decide +kernel) ⟨Nat.le_of_ble_eq_true rfl, Nat.le_of_ble_eq_true rfl⟩) (preV_ok hPc hDc hE (ci := 11) (q0 := 0) rfl rfl) rfl rfl hl.1 rfl (lv_room (Nat.le_of_ble_eq_true rfl)) dX12_wants_12 ⟨Nat.le_of_ble_eq_true rfl, Nat.le_of_ble_eq_true rfl⟩) hS (fun q _ h => hFc q h) hFc (fun r_12 u9 t9 H locs ht hvm hw hB hz1 hk1 hS => ?_)
  obtain ⟨hP1, hD1⟩ := hB
  rw [ht] at hP1
  obtain ⟨hP, hD⟩ := va_join (wr := [(ma 1, .inl (kc 0, 2880, .inl at0))]) (w1 := [(ma 0, .inr (11, [.ref (ma 1), .ref (ma 2), .int 1, .long 0, .long 1, .ref (ma 3), .ref (ma 4), .ref (ma 5), .ref (ma 6), .ref (ma 7), .int 0, .int 0, .int 0, .int 0, .int 0, .int 0, .int (-1), .int (-1), .int 0, .int 0, .int 0, .ref (ma 8), .int 0, .int 0, .int (-1), .int 0, .int 0, .int 0, .ref (ma 9), .int 0, .int 0, .ref (ma 10), .ref (ma 11), .ref (ma 12), .int 0, .int 0]))]) hP hD [0] [1] rfl rfl (by decide) (by decide) hk1 hFc hP1 hD1
  have hP : va_P D vwCl [(ma 1, .inl (kc 0, 2880, .inl at0)), (ma 0, .inr (11, [.ref (ma 1), .ref (ma 2), .int 1, .long 0, .long 1, .ref (ma 3), .ref (ma 4), .ref (ma 5), .ref (ma 6), .ref (ma 7), .int 0, .int 0, .int 0, .int 0, .int 0, .int 0, .int (-1), .int (-1), .int 0, .int 0, .int 0, .ref (ma 8), .int 0, .int 0, .int (-1), .int 0, .int 0, .int 0, .ref (ma 9), .int 0, .int 0, .ref (ma 10), .ref (ma 11), .ref (ma 12), .int 0, .int 0]))] H := hP
  have hD : va_D A [(ma 1, .inl (kc 0, 2880, .inl at0)), (ma 0, .inr (11, [.ref (ma 1), .ref (ma 2), .int 1, .long 0, .long 1, .ref (ma 3), .ref (ma 4), .ref (ma 5), .ref (ma 6), .ref (ma 7), .int 0, .int 0, .int 0, .int 0, .int 0, .int 0, .int (-1), .int (-1), .int 0, .int 0, .int 0, .ref (ma 8), .int 0, .int 0, .int (-1), .int 0, .int 0, .int 0, .ref (ma 9), .int 0, .int 0, .ref (ma 10), .ref (ma 11), .ref (ma 12), .int 0, .int 0]))] := hD
  subst hw
  exact W.iret (v := (-1)) hx hb hr (fun t9 ht hW => ⟨⟨(-1), (), rfl, rfl, trivial⟩, hS.F ht⟩) hS.2.2 dX12_wants_15
theorem dX12_value_0 : decode cX12_value 0 = .ok (.aload_n 0, 1) := by decide +kernel
theorem dX12_value_1 : decode cX12_value 1 = .ok (.iload_n 1, 1) := by decide +kernel
theorem dX12_value_2 : decode cX12_value 2 = .ok (.invokevirtual 263, 3) := by decide +kernel
theorem dX12_value_5 : decode cX12_value 5 = .ok (.istore_n 2, 1) := by decide +kernel
theorem dX12_value_6 : decode cX12_value 6 = .ok (.iload_n 2, 1) := by decide +kernel
theorem dX12_value_7 : decode cX12_value 7 = .ok (.ifCond .le 11, 3) := by decide +kernel
theorem dX12_value_10 : decode cX12_value 10 = .ok (.aload_n 0, 1) := by decide +kernel
theorem dX12_value_11 : decode cX12_value 11 = .ok (.iload_n 2, 1) := by decide +kernel
theorem dX12_value_12 : decode cX12_value 12 = .ok (.invokevirtual 72, 3) := by decide +kernel
theorem dX12_value_15 : decode cX12_value 15 = .ok (.goto 16, 3) := by decide +kernel
theorem dX12_value_31 : decode cX12_value 31 = .ok (.ireturn, 1) := by decide +kernel
def vdq_value : List Cond := [.code yX12_value cX12_value 3 (some .int), .methodLink RX12 263 yX12_wrongStep, .code yX12_wrongStep cX12_wrongStep 2 (some .int), .methodLink RX12 251 yX12_isHouse, .code yX12_isHouse cX12_isHouse 2 (some .boolean), .fieldLink RX12 7 "SaltStreetModel" "at" "[I", .instanceMethod yX12_isHouse, .selects RX12 yX12_isHouse yX12_isHouse, .initialized RX12, .instanceMethod yX12_wrongStep, .selects RX12 yX12_wrongStep yX12_wrongStep, .methodLink RX12 72 yX12_refuse, .code yX12_refuse cX12_refuse 2 (some .int), .fieldLink RX12 66 "SaltStreetModel" "status" "I", .instanceMethod yX12_refuse, .selects RX12 yX12_refuse yX12_refuse]
def vq_value : List Cond := vdq_value ++ (wsX120 ++ ([] : List Cond))
theorem iq_value_X12 : ∀ w ∈ wsX120, w ∈ vq_value := fun _ h => List.mem_append_right _ (List.mem_append_left _ h)
set_option maxRecDepth 20000 in
theorem gq_value_263_m_wrongStep : GoodIn vq_value (wsV RX12 263 RX12 yX12_wrongStep vm_wrongStep) := (goodIn_app (goodIn_r _ [1, 9, 10, 8] rfl (by decide +kernel)) (goodIn_app (goodIn_r vdm_wrongStep [2, 3, 4, 5, 6, 7, 8] rfl (by decide +kernel)) (goodIn_app (goodIn_sub iq_value_X12 gdX12) goodIn_nil)))
set_option maxRecDepth 20000 in
theorem gq_value_72_m_refuse : GoodIn vq_value (wsV RX12 72 RX12 yX12_refuse vm_refuse) := (goodIn_app (goodIn_r _ [11, 14, 15, 8] rfl (by decide +kernel)) (goodIn_app (goodIn_r vdm_refuse [12, 13] rfl (by decide +kernel)) (goodIn_app (goodIn_sub iq_value_X12 gdX12) goodIn_nil)))
set_option maxHeartbeats 4000000 in
set_option maxRecDepth 100000 in
theorem q_value (l : Launch) (D : va_G) (kc : Nat → ClassId) (sz : Nat) (ma : Nat → Nat) (a0 : Int32) : Met l yX12_value vq_value ({ frames := 2, cells := 0, slots := 0, locals := 42 }) (va_Pc [.ref (ma 0), .int a0] (wPre D kc [(ma 0, .inr (11, [.ref (ma 1), .ref (ma 2), .int 0, .long 0, .long 1, .ref (ma 3), .ref (ma 4), .ref (ma 5), .ref (ma 6), .ref (ma 7), .int 0, .int 0, .int 0, .int 0, .int 0, .int 0, .int (-1), .int (-1), .int 0, .int 0, .int 0, .ref (ma 8), .int 0, .int 0, .int (-1), .int 0, .int 0, .int 0, .ref (ma 9), .int 0, .int 0, .ref (ma 10), .ref (ma 11), .ref (ma 12), .int 0, .int 0])), (ma 1, .inl (kc 0, 2880, .inl at0))] sz)) (va_Qi (fun (r : Int32) (_ : Unit) => r = (-1)) wAny (va_A [(ma 0, .inr (11, [.ref (ma 1), .ref (ma 2), .int 0, .long 0, .long 1, .ref (ma 3), .ref (ma 4), .ref (ma 5), .ref (ma 6), .ref (ma 7), .int 0, .int 0, .int 0, .int 0, .int 0, .int 0, .int (-1), .int (-1), .int 0, .int 0, .int 0, .ref (ma 8), .int 0, .int 0, .int (-1), .int 0, .int 0, .int 0, .ref (ma 9), .int 0, .int 0, .ref (ma 10), .ref (ma 11), .ref (ma 12), .int 0, .int 0])), (ma 1, .inl (kc 0, 2880, .inl at0))] sz)) 0 0 (va_A [(ma 0, .inr (11, [.ref (ma 1), .ref (ma 2), .int 0, .long 0, .long 1, .ref (ma 3), .ref (ma 4), .ref (ma 5), .ref (ma 6), .ref (ma 7), .int 0, .int 0, .int 0, .int 0, .int 0, .int 0, .int (-1), .int (-1), .int 0, .int 0, .int 0, .ref (ma 8), .int 0, .int 0, .int (-1), .int 0, .int 0, .int 0, .ref (ma 9), .int 0, .int 0, .ref (ma 10), .ref (ma 11), .ref (ma 12), .int 0, .int 0])), (ma 1, .inl (kc 0, 2880, .inl at0))] sz) := by
  refine Met.ofW (cc := cX12_value) (maxL := 3) (ret := (some .int)) (by decide) rfl ?_
  intro p e s m args below meth c s₁ B hml hv
  obtain ⟨rfl, hsz, hP, hE, hD0⟩ := hv
  have hx := B.exec
  have hb := B.bytes
  have hr := B.returns
  have hts := atoms_spec (ws := vq_value) B.pre
  have hown : s.vm.findClass RX12 = some m.cls := findClass_of_methodNamed B.named
  have hlocks := B.notSynchronized
  subst hsz
  have hD := hD0.self (sz := s.heap.size)
  generalize hAe : va_A [(ma 0, .inr (11, [.ref (ma 1), .ref (ma 2), .int 0, .long 0, .long 1, .ref (ma 3), .ref (ma 4), .ref (ma 5), .ref (ma 6), .ref (ma 7), .int 0, .int 0, .int 0, .int 0, .int 0, .int 0, .int (-1), .int (-1), .int 0, .int 0, .int 0, .ref (ma 8), .int 0, .int 0, .int (-1), .int 0, .int 0, .int 0, .ref (ma 9), .int 0, .int 0, .ref (ma 10), .ref (ma 11), .ref (ma 12), .int 0, .int 0])), (ma 1, .inl (kc 0, 2880, .inl at0))] s.heap.size = A at hD ⊢
  have hA : ∀ q : Nat, s.heap.size ≤ q → A q := fun q h => by rw [← hAe]; exact Or.inr h
  have hS : va_S A s.heap s.heap [] := va_S.rf
  have hK := hE.1
  have hP : va_P D vwCl [(ma 0, .inr (11, [.ref (ma 1), .ref (ma 2), .int 0, .long 0, .long 1, .ref (ma 3), .ref (ma 4), .ref (ma 5), .ref (ma 6), .ref (ma 7), .int 0, .int 0, .int 0, .int 0, .int 0, .int 0, .int (-1), .int (-1), .int 0, .int 0, .int 0, .ref (ma 8), .int 0, .int 0, .int (-1), .int 0, .int 0, .int 0, .ref (ma 9), .int 0, .int 0, .ref (ma 10), .ref (ma 11), .ref (ma 12), .int 0, .int 0])), (ma 1, .inl (kc 0, 2880, .inl at0))] s.heap := hP
  have hl := lv_entry ([.ref (ma 0), .int a0]) (n := 3) (Nat.le_of_ble_eq_true rfl)
  rw [lg_entry_eq]
  generalize (lg_sl ([.ref (ma 0), .int a0]) ++ List.replicate (3 - (lg_sl ([.ref (ma 0), .int a0])).length) Slot.unset).toArray = ls at hl ⊢
  have hl : lv_has ls 3 [(0, .ref (ma 0)), (1, .int a0)] := hl
  refine lv_aload_n hx hb dX12_value_0 rfl (lv_at hl 0 rfl) ?_
  refine lv_iload_n hx hb dX12_value_1 rfl (lv_at hl 1 rfl) ?_
  have hPc := hP.sub (ws' := [(ma 0, .inr (11, [.ref (ma 1), .ref (ma 2), .int 0, .long 0, .long 1, .ref (ma 3), .ref (ma 4), .ref (ma 5), .ref (ma 6), .ref (ma 7), .int 0, .int 0, .int 0, .int 0, .int 0, .int 0, .int (-1), .int (-1), .int 0, .int 0, .int 0, .ref (ma 8), .int 0, .int 0, .int (-1), .int 0, .int 0, .int 0, .ref (ma 9), .int 0, .int 0, .ref (ma 10), .ref (ma 11), .ref (ma 12), .int 0, .int 0])), (ma 1, .inl (kc 0, 2880, .inl at0))]) [0, 1] rfl
  have hDc := hD.sub (ws' := [(ma 0, .inr (11, [.ref (ma 1), .ref (ma 2), .int 0, .long 0, .long 1, .ref (ma 3), .ref (ma 4), .ref (ma 5), .ref (ma 6), .ref (ma 7), .int 0, .int 0, .int 0, .int 0, .int 0, .int 0, .int (-1), .int (-1), .int 0, .int 0, .int 0, .ref (ma 8), .int 0, .int 0, .int (-1), .int 0, .int 0, .int 0, .ref (ma 9), .int 0, .int 0, .ref (ma 10), .ref (ma 11), .ref (ma 12), .int 0, .int 0])), (ma 1, .inl (kc 0, 2880, .inl at0))]) [0, 1] (by decide) rfl
  have hFc := va_free (wc := [(ma 0, .inr (11, [.ref (ma 1), .ref (ma 2), .int 0, .long 0, .long 1, .ref (ma 3), .ref (ma 4), .ref (ma 5), .ref (ma 6), .ref (ma 7), .int 0, .int 0, .int 0, .int 0, .int 0, .int 0, .int (-1), .int (-1), .int 0, .int 0, .int 0, .ref (ma 8), .int 0, .int 0, .int (-1), .int 0, .int 0, .int 0, .ref (ma 9), .int 0, .int 0, .ref (ma 10), .ref (ma 11), .ref (ma 12), .int 0, .int 0])), (ma 1, .inl (kc 0, 2880, .inl at0))]) hD hS hA [0, 1] rfl
  refine va_calli (va_runV (As := [.int a0]) (rest := []) ⟨hx, hb, hml, hown, hts⟩ (m_wrongStep l D kc s.heap.size ma a0) (cwV 1 hts gq_value_263_m_wrongStep rfl rfl rfl (by decide +kernel) ⟨Nat.le_of_ble_eq_true rfl, Nat.le_of_ble_eq_true rfl⟩) (preV_ok hPc hDc hE (ci := 11) (q0 := 0) rfl rfl) rfl rfl hl.1 rfl (lv_room (Nat.le_of_ble_eq_true rfl)) dX12_value_2 ⟨Nat.le_of_ble_eq_true rfl, Nat.le_of_ble_eq_true rfl⟩) hS (fun q _ h => hFc q h) hFc (fun r_2 u9 t9 H locs ht hvm hw hB hz1 hk1 hS => ?_)
  obtain ⟨hP1, hD1⟩ := hB
  rw [ht] at hP1
  obtain ⟨hP, hD⟩ := va_join (wr := []) (w1 := [(ma 0, .inr (11, [.ref (ma 1), .ref (ma 2), .int 0, .long 0, .long 1, .ref (ma 3), .ref (ma 4), .ref (ma 5), .ref (ma 6), .ref (ma 7), .int 0, .int 0, .int 0, .int 0, .int 0, .int 0, .int (-1), .int (-1), .int 0, .int 0, .int 0, .ref (ma 8), .int 0, .int 0, .int (-1), .int 0, .int 0, .int 0, .ref (ma 9), .int 0, .int 0, .ref (ma 10), .ref (ma 11), .ref (ma 12), .int 0, .int 0])), (ma 1, .inl (kc 0, 2880, .inl at0))]) hP hD [0, 1] [] rfl rfl (by decide) (by decide) hk1 hFc hP1 hD1
  have hP : va_P D vwCl [(ma 0, .inr (11, [.ref (ma 1), .ref (ma 2), .int 0, .long 0, .long 1, .ref (ma 3), .ref (ma 4), .ref (ma 5), .ref (ma 6), .ref (ma 7), .int 0, .int 0, .int 0, .int 0, .int 0, .int 0, .int (-1), .int (-1), .int 0, .int 0, .int 0, .ref (ma 8), .int 0, .int 0, .int (-1), .int 0, .int 0, .int 0, .ref (ma 9), .int 0, .int 0, .ref (ma 10), .ref (ma 11), .ref (ma 12), .int 0, .int 0])), (ma 1, .inl (kc 0, 2880, .inl at0))] H := hP
  have hD : va_D A [(ma 0, .inr (11, [.ref (ma 1), .ref (ma 2), .int 0, .long 0, .long 1, .ref (ma 3), .ref (ma 4), .ref (ma 5), .ref (ma 6), .ref (ma 7), .int 0, .int 0, .int 0, .int 0, .int 0, .int 0, .int (-1), .int (-1), .int 0, .int 0, .int 0, .ref (ma 8), .int 0, .int 0, .int (-1), .int 0, .int 0, .int 0, .ref (ma 9), .int 0, .int 0, .ref (ma 10), .ref (ma 11), .ref (ma 12), .int 0, .int 0])), (ma 1, .inl (kc 0, 2880, .inl at0))] := hD
  subst hw
  refine lv_istore_n (lv' := [(2, .int 1), (0, .ref (ma 0)), (1, .int a0)]) hx hb dX12_value_5 rfl hl (by decide) rfl (fun ls hl => ?_)
  refine lv_iload_n hx hb dX12_value_6 rfl (lv_at hl 0 rfl) ?_
  refine lv_if_le (tgt := 18) hx hb dX12_value_7 (by decide) (fun h => absurd h (by decide)) (fun _ => ?_)
  refine lv_aload_n hx hb dX12_value_10 rfl (lv_at hl 1 rfl) ?_
  refine lv_iload_n hx hb dX12_value_11 rfl (lv_at hl 0 rfl) ?_
  have hPc := hP.sub (ws' := [(ma 0, .inr (11, [.ref (ma 1), .ref (ma 2), .int 0, .long 0, .long 1, .ref (ma 3), .ref (ma 4), .ref (ma 5), .ref (ma 6), .ref (ma 7), .int 0, .int 0, .int 0, .int 0, .int 0, .int 0, .int (-1), .int (-1), .int 0, .int 0, .int 0, .ref (ma 8), .int 0, .int 0, .int (-1), .int 0, .int 0, .int 0, .ref (ma 9), .int 0, .int 0, .ref (ma 10), .ref (ma 11), .ref (ma 12), .int 0, .int 0]))]) [0] rfl
  have hDc := hD.sub (ws' := [(ma 0, .inr (11, [.ref (ma 1), .ref (ma 2), .int 0, .long 0, .long 1, .ref (ma 3), .ref (ma 4), .ref (ma 5), .ref (ma 6), .ref (ma 7), .int 0, .int 0, .int 0, .int 0, .int 0, .int 0, .int (-1), .int (-1), .int 0, .int 0, .int 0, .ref (ma 8), .int 0, .int 0, .int (-1), .int 0, .int 0, .int 0, .ref (ma 9), .int 0, .int 0, .ref (ma 10), .ref (ma 11), .ref (ma 12), .int 0, .int 0]))]) [0] (by decide) rfl
  have hFc := va_free (wc := [(ma 0, .inr (11, [.ref (ma 1), .ref (ma 2), .int 0, .long 0, .long 1, .ref (ma 3), .ref (ma 4), .ref (ma 5), .ref (ma 6), .ref (ma 7), .int 0, .int 0, .int 0, .int 0, .int 0, .int 0, .int (-1), .int (-1), .int 0, .int 0, .int 0, .ref (ma 8), .int 0, .int 0, .int (-1), .int 0, .int 0, .int 0, .ref (ma 9), .int 0, .int 0, .ref (ma 10), .ref (ma 11), .ref (ma 12), .int 0, .int 0]))]) hD hS hA [0] rfl
  refine va_calli (va_runV (As := [.int 1]) (rest := []) ⟨hx, hb, hml, hown, hts⟩ (m_refuse l D kc H.size ma 0 0 1 0 0 0 0 0 0 (-1) (-1) 0 0 0 0 0 (-1) 0 0 0 0 0 0 0 1) (cwV 1 hts gq_value_72_m_refuse rfl rfl rfl (by decide +kernel) ⟨Nat.le_of_ble_eq_true rfl, Nat.le_of_ble_eq_true rfl⟩) (preV_ok hPc hDc hE (ci := 11) (q0 := 0) rfl rfl) rfl rfl hl.1 rfl (lv_room (Nat.le_of_ble_eq_true rfl)) dX12_value_12 ⟨Nat.le_of_ble_eq_true rfl, Nat.le_of_ble_eq_true rfl⟩) hS (fun q _ h => hFc q h) hFc (fun r_12 u9 t9 H locs ht hvm hw hB hz1 hk1 hS => ?_)
  obtain ⟨hP1, hD1⟩ := hB
  rw [ht] at hP1
  obtain ⟨hP, hD⟩ := va_join (wr := [(ma 1, .inl (kc 0, 2880, .inl at0))]) (w1 := [(ma 0, .inr (11, [.ref (ma 1), .ref (ma 2), .int 1, .long 0, .long 1, .ref (ma 3), .ref (ma 4), .ref (ma 5), .ref (ma 6), .ref (ma 7), .int 0, .int 0, .int 0, .int 0, .int 0, .int 0, .int (-1), .int (-1), .int 0, .int 0, .int 0, .ref (ma 8), .int 0, .int 0, .int (-1), .int 0, .int 0, .int 0, .ref (ma 9), .int 0, .int 0, .ref (ma 10), .ref (ma 11), .ref (ma 12), .int 0, .int 0]))]) hP hD [0] [1] rfl rfl (by decide) (by decide) hk1 hFc hP1 hD1
  have hP : va_P D vwCl [(ma 1, .inl (kc 0, 2880, .inl at0)), (ma 0, .inr (11, [.ref (ma 1), .ref (ma 2), .int 1, .long 0, .long 1, .ref (ma 3), .ref (ma 4), .ref (ma 5), .ref (ma 6), .ref (ma 7), .int 0, .int 0, .int 0, .int 0, .int 0, .int 0, .int (-1), .int (-1), .int 0, .int 0, .int 0, .ref (ma 8), .int 0, .int 0, .int (-1), .int 0, .int 0, .int 0, .ref (ma 9), .int 0, .int 0, .ref (ma 10), .ref (ma 11), .ref (ma 12), .int 0, .int 0]))] H := hP
  have hD : va_D A [(ma 1, .inl (kc 0, 2880, .inl at0)), (ma 0, .inr (11, [.ref (ma 1), .ref (ma 2), .int 1, .long 0, .long 1, .ref (ma 3), .ref (ma 4), .ref (ma 5), .ref (ma 6), .ref (ma 7), .int 0, .int 0, .int 0, .int 0, .int 0, .int 0, .int (-1), .int (-1), .int 0, .int 0, .int 0, .ref (ma 8), .int 0, .int 0, .int (-1), .int 0, .int 0, .int 0, .ref (ma 9), .int 0, .int 0, .ref (ma 10), .ref (ma 11), .ref (ma 12), .int 0, .int 0]))] := hD
  subst hw
  refine lv_goto (tgt := 31) hx hb dX12_value_15 (by decide) ?_
  exact W.iret (v := (-1)) hx hb hr (fun t9 ht hW => ⟨⟨(-1), (), rfl, rfl, trivial⟩, hS.F ht⟩) hS.2.2 dX12_value_31
theorem dX12_beside_0 : decode cX12_beside 0 = .ok (.aload_n 0, 1) := by decide +kernel
theorem dX12_beside_1 : decode cX12_beside 1 = .ok (.iload_n 1, 1) := by decide +kernel
theorem dX12_beside_2 : decode cX12_beside 2 = .ok (.invokevirtual 251, 3) := by decide +kernel
theorem dX12_beside_5 : decode cX12_beside 5 = .ok (.ifCond .ne 9, 3) := by decide +kernel
theorem dX12_beside_8 : decode cX12_beside 8 = .ok (.aload_n 0, 1) := by decide +kernel
theorem dX12_beside_9 : decode cX12_beside 9 = .ok (.iconst 1, 1) := by decide +kernel
theorem dX12_beside_10 : decode cX12_beside 10 = .ok (.invokevirtual 72, 3) := by decide +kernel
theorem dX12_beside_13 : decode cX12_beside 13 = .ok (.ireturn, 1) := by decide +kernel
def vdq_beside : List Cond := [.code yX12_beside cX12_beside 2 (some .int), .methodLink RX12 251 yX12_isHouse, .code yX12_isHouse cX12_isHouse 2 (some .boolean), .fieldLink RX12 7 "SaltStreetModel" "at" "[I", .instanceMethod yX12_isHouse, .selects RX12 yX12_isHouse yX12_isHouse, .initialized RX12, .methodLink RX12 72 yX12_refuse, .code yX12_refuse cX12_refuse 2 (some .int), .fieldLink RX12 66 "SaltStreetModel" "status" "I", .instanceMethod yX12_refuse, .selects RX12 yX12_refuse yX12_refuse]
def vq_beside : List Cond := vdq_beside ++ (wsX120 ++ ([] : List Cond))
theorem iq_beside_X12 : ∀ w ∈ wsX120, w ∈ vq_beside := fun _ h => List.mem_append_right _ (List.mem_append_left _ h)
set_option maxRecDepth 20000 in
theorem gq_beside_251_m_isHouse : GoodIn vq_beside (wsV RX12 251 RX12 yX12_isHouse vm_isHouse) := (goodIn_app (goodIn_r _ [1, 4, 5, 6] rfl (by decide +kernel)) (goodIn_app (goodIn_r vdm_isHouse [2, 3] rfl (by decide +kernel)) (goodIn_app (goodIn_sub iq_beside_X12 gdX12) goodIn_nil)))
set_option maxRecDepth 20000 in
theorem gq_beside_72_m_refuse : GoodIn vq_beside (wsV RX12 72 RX12 yX12_refuse vm_refuse) := (goodIn_app (goodIn_r _ [7, 10, 11, 6] rfl (by decide +kernel)) (goodIn_app (goodIn_r vdm_refuse [8, 9] rfl (by decide +kernel)) (goodIn_app (goodIn_sub iq_beside_X12 gdX12) goodIn_nil)))
set_option maxHeartbeats 4000000 in
set_option maxRecDepth 100000 in
theorem q_beside (l : Launch) (D : va_G) (kc : Nat → ClassId) (sz : Nat) (ma : Nat → Nat) (a0 : Int32) : Met l yX12_beside vq_beside ({ frames := 1, cells := 0, slots := 0, locals := 21 }) (va_Pc [.ref (ma 0), .int a0] (wPre D kc [(ma 0, .inr (11, [.ref (ma 1), .ref (ma 2), .int 0, .long 0, .long 1, .ref (ma 3), .ref (ma 4), .ref (ma 5), .ref (ma 6), .ref (ma 7), .int 0, .int 0, .int 0, .int 0, .int 0, .int 0, .int (-1), .int (-1), .int 0, .int 0, .int 0, .ref (ma 8), .int 0, .int 0, .int (-1), .int 0, .int 0, .int 0, .ref (ma 9), .int 0, .int 0, .ref (ma 10), .ref (ma 11), .ref (ma 12), .int 0, .int 0])), (ma 1, .inl (kc 0, 2880, .inl at0))] sz)) (va_Qi (fun (r : Int32) (_ : Unit) => r = (-1)) wAny (va_A [(ma 0, .inr (11, [.ref (ma 1), .ref (ma 2), .int 0, .long 0, .long 1, .ref (ma 3), .ref (ma 4), .ref (ma 5), .ref (ma 6), .ref (ma 7), .int 0, .int 0, .int 0, .int 0, .int 0, .int 0, .int (-1), .int (-1), .int 0, .int 0, .int 0, .ref (ma 8), .int 0, .int 0, .int (-1), .int 0, .int 0, .int 0, .ref (ma 9), .int 0, .int 0, .ref (ma 10), .ref (ma 11), .ref (ma 12), .int 0, .int 0])), (ma 1, .inl (kc 0, 2880, .inl at0))] sz)) 0 0 (va_A [(ma 0, .inr (11, [.ref (ma 1), .ref (ma 2), .int 0, .long 0, .long 1, .ref (ma 3), .ref (ma 4), .ref (ma 5), .ref (ma 6), .ref (ma 7), .int 0, .int 0, .int 0, .int 0, .int 0, .int 0, .int (-1), .int (-1), .int 0, .int 0, .int 0, .ref (ma 8), .int 0, .int 0, .int (-1), .int 0, .int 0, .int 0, .ref (ma 9), .int 0, .int 0, .ref (ma 10), .ref (ma 11), .ref (ma 12), .int 0, .int 0])), (ma 1, .inl (kc 0, 2880, .inl at0))] sz) := by
  refine Met.ofW (cc := cX12_beside) (maxL := 2) (ret := (some .int)) (by decide) rfl ?_
  intro p e s m args below meth c s₁ B hml hv
  obtain ⟨rfl, hsz, hP, hE, hD0⟩ := hv
  have hx := B.exec
  have hb := B.bytes
  have hr := B.returns
  have hts := atoms_spec (ws := vq_beside) B.pre
  have hown : s.vm.findClass RX12 = some m.cls := findClass_of_methodNamed B.named
  have hlocks := B.notSynchronized
  subst hsz
  have hD := hD0.self (sz := s.heap.size)
  generalize hAe : va_A [(ma 0, .inr (11, [.ref (ma 1), .ref (ma 2), .int 0, .long 0, .long 1, .ref (ma 3), .ref (ma 4), .ref (ma 5), .ref (ma 6), .ref (ma 7), .int 0, .int 0, .int 0, .int 0, .int 0, .int 0, .int (-1), .int (-1), .int 0, .int 0, .int 0, .ref (ma 8), .int 0, .int 0, .int (-1), .int 0, .int 0, .int 0, .ref (ma 9), .int 0, .int 0, .ref (ma 10), .ref (ma 11), .ref (ma 12), .int 0, .int 0])), (ma 1, .inl (kc 0, 2880, .inl at0))] s.heap.size = A at hD ⊢
  have hA : ∀ q : Nat, s.heap.size ≤ q → A q := fun q h => by rw [← hAe]; exact Or.inr h
  have hS : va_S A s.heap s.heap [] := va_S.rf
  have hK := hE.1
  have hP : va_P D vwCl [(ma 0, .inr (11, [.ref (ma 1), .ref (ma 2), .int 0, .long 0, .long 1, .ref (ma 3), .ref (ma 4), .ref (ma 5), .ref (ma 6), .ref (ma 7), .int 0, .int 0, .int 0, .int 0, .int 0, .int 0, .int (-1), .int (-1), .int 0, .int 0, .int 0, .ref (ma 8), .int 0, .int 0, .int (-1), .int 0, .int 0, .int 0, .ref (ma 9), .int 0, .int 0, .ref (ma 10), .ref (ma 11), .ref (ma 12), .int 0, .int 0])), (ma 1, .inl (kc 0, 2880, .inl at0))] s.heap := hP
  have hl := lv_entry ([.ref (ma 0), .int a0]) (n := 2) (Nat.le_of_ble_eq_true rfl)
  rw [lg_entry_eq]
  generalize (lg_sl ([.ref (ma 0), .int a0]) ++ List.replicate (2 - (lg_sl ([.ref (ma 0), .int a0])).length) Slot.unset).toArray = ls at hl ⊢
  have hl : lv_has ls 2 [(0, .ref (ma 0)), (1, .int a0)] := hl
  refine lv_aload_n hx hb dX12_beside_0 rfl (lv_at hl 0 rfl) ?_
  refine lv_iload_n hx hb dX12_beside_1 rfl (lv_at hl 1 rfl) ?_
  have hPc := hP.sub (ws' := [(ma 0, .inr (11, [.ref (ma 1), .ref (ma 2), .int 0, .long 0, .long 1, .ref (ma 3), .ref (ma 4), .ref (ma 5), .ref (ma 6), .ref (ma 7), .int 0, .int 0, .int 0, .int 0, .int 0, .int 0, .int (-1), .int (-1), .int 0, .int 0, .int 0, .ref (ma 8), .int 0, .int 0, .int (-1), .int 0, .int 0, .int 0, .ref (ma 9), .int 0, .int 0, .ref (ma 10), .ref (ma 11), .ref (ma 12), .int 0, .int 0])), (ma 1, .inl (kc 0, 2880, .inl at0))]) [0, 1] rfl
  have hDc := hD.sub (ws' := [(ma 0, .inr (11, [.ref (ma 1), .ref (ma 2), .int 0, .long 0, .long 1, .ref (ma 3), .ref (ma 4), .ref (ma 5), .ref (ma 6), .ref (ma 7), .int 0, .int 0, .int 0, .int 0, .int 0, .int 0, .int (-1), .int (-1), .int 0, .int 0, .int 0, .ref (ma 8), .int 0, .int 0, .int (-1), .int 0, .int 0, .int 0, .ref (ma 9), .int 0, .int 0, .ref (ma 10), .ref (ma 11), .ref (ma 12), .int 0, .int 0])), (ma 1, .inl (kc 0, 2880, .inl at0))]) [0, 1] (by decide) rfl
  have hFc := va_free (wc := [(ma 0, .inr (11, [.ref (ma 1), .ref (ma 2), .int 0, .long 0, .long 1, .ref (ma 3), .ref (ma 4), .ref (ma 5), .ref (ma 6), .ref (ma 7), .int 0, .int 0, .int 0, .int 0, .int 0, .int 0, .int (-1), .int (-1), .int 0, .int 0, .int 0, .ref (ma 8), .int 0, .int 0, .int (-1), .int 0, .int 0, .int 0, .ref (ma 9), .int 0, .int 0, .ref (ma 10), .ref (ma 11), .ref (ma 12), .int 0, .int 0])), (ma 1, .inl (kc 0, 2880, .inl at0))]) hD hS hA [0, 1] rfl
  refine va_calli (va_runV (As := [.int a0]) (rest := []) ⟨hx, hb, hml, hown, hts⟩ (m_isHouse l D kc s.heap.size ma a0) (cwV 1 hts gq_beside_251_m_isHouse rfl rfl rfl (by decide +kernel) ⟨Nat.le_of_ble_eq_true rfl, Nat.le_of_ble_eq_true rfl⟩) (preV_ok hPc hDc hE (ci := 11) (q0 := 0) rfl rfl) rfl rfl hl.1 rfl (lv_room (Nat.le_of_ble_eq_true rfl)) dX12_beside_2 ⟨Nat.le_of_ble_eq_true rfl, Nat.le_of_ble_eq_true rfl⟩) hS (fun q _ h => hFc q h) hFc (fun r_2 u9 t9 H locs ht hvm hw hB hz1 hk1 hS => ?_)
  obtain ⟨hP1, hD1⟩ := hB
  rw [ht] at hP1
  obtain ⟨hP, hD⟩ := va_join (wr := []) (w1 := [(ma 0, .inr (11, [.ref (ma 1), .ref (ma 2), .int 0, .long 0, .long 1, .ref (ma 3), .ref (ma 4), .ref (ma 5), .ref (ma 6), .ref (ma 7), .int 0, .int 0, .int 0, .int 0, .int 0, .int 0, .int (-1), .int (-1), .int 0, .int 0, .int 0, .ref (ma 8), .int 0, .int 0, .int (-1), .int 0, .int 0, .int 0, .ref (ma 9), .int 0, .int 0, .ref (ma 10), .ref (ma 11), .ref (ma 12), .int 0, .int 0])), (ma 1, .inl (kc 0, 2880, .inl at0))]) hP hD [0, 1] [] rfl rfl (by decide) (by decide) hk1 hFc hP1 hD1
  have hP : va_P D vwCl [(ma 0, .inr (11, [.ref (ma 1), .ref (ma 2), .int 0, .long 0, .long 1, .ref (ma 3), .ref (ma 4), .ref (ma 5), .ref (ma 6), .ref (ma 7), .int 0, .int 0, .int 0, .int 0, .int 0, .int 0, .int (-1), .int (-1), .int 0, .int 0, .int 0, .ref (ma 8), .int 0, .int 0, .int (-1), .int 0, .int 0, .int 0, .ref (ma 9), .int 0, .int 0, .ref (ma 10), .ref (ma 11), .ref (ma 12), .int 0, .int 0])), (ma 1, .inl (kc 0, 2880, .inl at0))] H := hP
  have hD : va_D A [(ma 0, .inr (11, [.ref (ma 1), .ref (ma 2), .int 0, .long 0, .long 1, .ref (ma 3), .ref (ma 4), .ref (ma 5), .ref (ma 6), .ref (ma 7), .int 0, .int 0, .int 0, .int 0, .int 0, .int 0, .int (-1), .int (-1), .int 0, .int 0, .int 0, .ref (ma 8), .int 0, .int 0, .int (-1), .int 0, .int 0, .int 0, .ref (ma 9), .int 0, .int 0, .ref (ma 10), .ref (ma 11), .ref (ma 12), .int 0, .int 0])), (ma 1, .inl (kc 0, 2880, .inl at0))] := hD
  subst hw
  refine lv_if_ne (tgt := 14) hx hb dX12_beside_5 (by decide) (fun h => absurd (by decide) h) (fun _ => ?_)
  refine lv_aload_n hx hb dX12_beside_8 rfl (lv_at hl 0 rfl) ?_
  refine lv_iconst (v := 1) hx hb dX12_beside_9 (by decide) ?_
  have hPc := hP.sub (ws' := [(ma 0, .inr (11, [.ref (ma 1), .ref (ma 2), .int 0, .long 0, .long 1, .ref (ma 3), .ref (ma 4), .ref (ma 5), .ref (ma 6), .ref (ma 7), .int 0, .int 0, .int 0, .int 0, .int 0, .int 0, .int (-1), .int (-1), .int 0, .int 0, .int 0, .ref (ma 8), .int 0, .int 0, .int (-1), .int 0, .int 0, .int 0, .ref (ma 9), .int 0, .int 0, .ref (ma 10), .ref (ma 11), .ref (ma 12), .int 0, .int 0]))]) [0] rfl
  have hDc := hD.sub (ws' := [(ma 0, .inr (11, [.ref (ma 1), .ref (ma 2), .int 0, .long 0, .long 1, .ref (ma 3), .ref (ma 4), .ref (ma 5), .ref (ma 6), .ref (ma 7), .int 0, .int 0, .int 0, .int 0, .int 0, .int 0, .int (-1), .int (-1), .int 0, .int 0, .int 0, .ref (ma 8), .int 0, .int 0, .int (-1), .int 0, .int 0, .int 0, .ref (ma 9), .int 0, .int 0, .ref (ma 10), .ref (ma 11), .ref (ma 12), .int 0, .int 0]))]) [0] (by decide) rfl
  have hFc := va_free (wc := [(ma 0, .inr (11, [.ref (ma 1), .ref (ma 2), .int 0, .long 0, .long 1, .ref (ma 3), .ref (ma 4), .ref (ma 5), .ref (ma 6), .ref (ma 7), .int 0, .int 0, .int 0, .int 0, .int 0, .int 0, .int (-1), .int (-1), .int 0, .int 0, .int 0, .ref (ma 8), .int 0, .int 0, .int (-1), .int 0, .int 0, .int 0, .ref (ma 9), .int 0, .int 0, .ref (ma 10), .ref (ma 11), .ref (ma 12), .int 0, .int 0]))]) hD hS hA [0] rfl
  refine va_calli (va_runV (As := [.int 1]) (rest := []) ⟨hx, hb, hml, hown, hts⟩ (m_refuse l D kc H.size ma 0 0 1 0 0 0 0 0 0 (-1) (-1) 0 0 0 0 0 (-1) 0 0 0 0 0 0 0 1) (cwV 1 hts gq_beside_72_m_refuse rfl rfl rfl (by decide +kernel) ⟨Nat.le_of_ble_eq_true rfl, Nat.le_of_ble_eq_true rfl⟩) (preV_ok hPc hDc hE (ci := 11) (q0 := 0) rfl rfl) rfl rfl hl.1 rfl (lv_room (Nat.le_of_ble_eq_true rfl)) dX12_beside_10 ⟨Nat.le_of_ble_eq_true rfl, Nat.le_of_ble_eq_true rfl⟩) hS (fun q _ h => hFc q h) hFc (fun r_10 u9 t9 H locs ht hvm hw hB hz1 hk1 hS => ?_)
  obtain ⟨hP1, hD1⟩ := hB
  rw [ht] at hP1
  obtain ⟨hP, hD⟩ := va_join (wr := [(ma 1, .inl (kc 0, 2880, .inl at0))]) (w1 := [(ma 0, .inr (11, [.ref (ma 1), .ref (ma 2), .int 1, .long 0, .long 1, .ref (ma 3), .ref (ma 4), .ref (ma 5), .ref (ma 6), .ref (ma 7), .int 0, .int 0, .int 0, .int 0, .int 0, .int 0, .int (-1), .int (-1), .int 0, .int 0, .int 0, .ref (ma 8), .int 0, .int 0, .int (-1), .int 0, .int 0, .int 0, .ref (ma 9), .int 0, .int 0, .ref (ma 10), .ref (ma 11), .ref (ma 12), .int 0, .int 0]))]) hP hD [0] [1] rfl rfl (by decide) (by decide) hk1 hFc hP1 hD1
  have hP : va_P D vwCl [(ma 1, .inl (kc 0, 2880, .inl at0)), (ma 0, .inr (11, [.ref (ma 1), .ref (ma 2), .int 1, .long 0, .long 1, .ref (ma 3), .ref (ma 4), .ref (ma 5), .ref (ma 6), .ref (ma 7), .int 0, .int 0, .int 0, .int 0, .int 0, .int 0, .int (-1), .int (-1), .int 0, .int 0, .int 0, .ref (ma 8), .int 0, .int 0, .int (-1), .int 0, .int 0, .int 0, .ref (ma 9), .int 0, .int 0, .ref (ma 10), .ref (ma 11), .ref (ma 12), .int 0, .int 0]))] H := hP
  have hD : va_D A [(ma 1, .inl (kc 0, 2880, .inl at0)), (ma 0, .inr (11, [.ref (ma 1), .ref (ma 2), .int 1, .long 0, .long 1, .ref (ma 3), .ref (ma 4), .ref (ma 5), .ref (ma 6), .ref (ma 7), .int 0, .int 0, .int 0, .int 0, .int 0, .int 0, .int (-1), .int (-1), .int 0, .int 0, .int 0, .ref (ma 8), .int 0, .int 0, .int (-1), .int 0, .int 0, .int 0, .ref (ma 9), .int 0, .int 0, .ref (ma 10), .ref (ma 11), .ref (ma 12), .int 0, .int 0]))] := hD
  subst hw
  exact W.iret (v := (-1)) hx hb hr (fun t9 ht hW => ⟨⟨(-1), (), rfl, rfl, trivial⟩, hS.F ht⟩) hS.2.2 dX12_beside_13
theorem dX12_lackAt_0 : decode cX12_lackAt 0 = .ok (.aload_n 0, 1) := by decide +kernel
theorem dX12_lackAt_1 : decode cX12_lackAt 1 = .ok (.iload_n 1, 1) := by decide +kernel
theorem dX12_lackAt_2 : decode cX12_lackAt 2 = .ok (.invokevirtual 368, 3) := by decide +kernel
theorem dX12_lackAt_5 : decode cX12_lackAt 5 = .ok (.ifCond .ne 7, 3) := by decide +kernel
theorem dX12_lackAt_12 : decode cX12_lackAt 12 = .ok (.aload_n 0, 1) := by decide +kernel
theorem dX12_lackAt_13 : decode cX12_lackAt 13 = .ok (.iload_n 2, 1) := by decide +kernel
theorem dX12_lackAt_14 : decode cX12_lackAt 14 = .ok (.invokevirtual 263, 3) := by decide +kernel
theorem dX12_lackAt_17 : decode cX12_lackAt 17 = .ok (.istore_n 3, 1) := by decide +kernel
theorem dX12_lackAt_18 : decode cX12_lackAt 18 = .ok (.iload_n 3, 1) := by decide +kernel
theorem dX12_lackAt_19 : decode cX12_lackAt 19 = .ok (.ifCond .le 11, 3) := by decide +kernel
theorem dX12_lackAt_22 : decode cX12_lackAt 22 = .ok (.aload_n 0, 1) := by decide +kernel
theorem dX12_lackAt_23 : decode cX12_lackAt 23 = .ok (.iload_n 3, 1) := by decide +kernel
theorem dX12_lackAt_24 : decode cX12_lackAt 24 = .ok (.invokevirtual 72, 3) := by decide +kernel
theorem dX12_lackAt_27 : decode cX12_lackAt 27 = .ok (.goto 13, 3) := by decide +kernel
theorem dX12_lackAt_40 : decode cX12_lackAt 40 = .ok (.ireturn, 1) := by decide +kernel
theorem dX12_lackAt_8 : decode cX12_lackAt 8 = .ok (.iconst 1, 1) := by decide +kernel
theorem dX12_lackAt_9 : decode cX12_lackAt 9 = .ok (.goto 8, 3) := by decide +kernel
def vdq_lackAt : List Cond := [.code yX12_lackAt cX12_lackAt 4 (some .int), .methodLink RX12 368 yX12_isSetOf, .code yX12_isSetOf cX12_isSetOf 2 (some .boolean), .fieldLink RX12 7 "SaltStreetModel" "at" "[I", .instanceMethod yX12_isSetOf, .selects RX12 yX12_isSetOf yX12_isSetOf, .initialized RX12, .methodLink RX12 263 yX12_wrongStep, .code yX12_wrongStep cX12_wrongStep 2 (some .int), .methodLink RX12 251 yX12_isHouse, .code yX12_isHouse cX12_isHouse 2 (some .boolean), .instanceMethod yX12_isHouse, .selects RX12 yX12_isHouse yX12_isHouse, .instanceMethod yX12_wrongStep, .selects RX12 yX12_wrongStep yX12_wrongStep, .methodLink RX12 72 yX12_refuse, .code yX12_refuse cX12_refuse 2 (some .int), .fieldLink RX12 66 "SaltStreetModel" "status" "I", .instanceMethod yX12_refuse, .selects RX12 yX12_refuse yX12_refuse]
def vq_lackAt : List Cond := vdq_lackAt ++ (wsX120 ++ ([] : List Cond))
theorem iq_lackAt_X12 : ∀ w ∈ wsX120, w ∈ vq_lackAt := fun _ h => List.mem_append_right _ (List.mem_append_left _ h)
set_option maxRecDepth 20000 in
theorem gq_lackAt_368_m_isSetOf : GoodIn vq_lackAt (wsV RX12 368 RX12 yX12_isSetOf vm_isSetOf) := (goodIn_app (goodIn_r _ [1, 4, 5, 6] rfl (by decide +kernel)) (goodIn_app (goodIn_r vdm_isSetOf [2, 3] rfl (by decide +kernel)) (goodIn_app (goodIn_sub iq_lackAt_X12 gdX12) goodIn_nil)))
set_option maxRecDepth 20000 in
theorem gq_lackAt_263_m_wrongStep : GoodIn vq_lackAt (wsV RX12 263 RX12 yX12_wrongStep vm_wrongStep) := (goodIn_app (goodIn_r _ [7, 13, 14, 6] rfl (by decide +kernel)) (goodIn_app (goodIn_r vdm_wrongStep [8, 9, 10, 3, 11, 12, 6] rfl (by decide +kernel)) (goodIn_app (goodIn_sub iq_lackAt_X12 gdX12) goodIn_nil)))
set_option maxRecDepth 20000 in
theorem gq_lackAt_72_m_refuse : GoodIn vq_lackAt (wsV RX12 72 RX12 yX12_refuse vm_refuse) := (goodIn_app (goodIn_r _ [15, 18, 19, 6] rfl (by decide +kernel)) (goodIn_app (goodIn_r vdm_refuse [16, 17] rfl (by decide +kernel)) (goodIn_app (goodIn_sub iq_lackAt_X12 gdX12) goodIn_nil)))
set_option maxHeartbeats 4000000 in
set_option maxRecDepth 100000 in
theorem q_lackAt (l : Launch) (D : va_G) (kc : Nat → ClassId) (sz : Nat) (ma : Nat → Nat) (a0 : Int32) (a1 : Int32) : Met l yX12_lackAt vq_lackAt ({ frames := 2, cells := 0, slots := 0, locals := 42 }) (va_Pc [.ref (ma 0), .int a0, .int a1] (wPre D kc [(ma 0, .inr (11, [.ref (ma 1), .ref (ma 2), .int 0, .long 0, .long 1, .ref (ma 3), .ref (ma 4), .ref (ma 5), .ref (ma 6), .ref (ma 7), .int 0, .int 0, .int 0, .int 0, .int 0, .int 0, .int (-1), .int (-1), .int 0, .int 0, .int 0, .ref (ma 8), .int 0, .int 0, .int (-1), .int 0, .int 0, .int 0, .ref (ma 9), .int 0, .int 0, .ref (ma 10), .ref (ma 11), .ref (ma 12), .int 0, .int 0])), (ma 1, .inl (kc 0, 2880, .inl at0))] sz)) (va_Qi (fun (r : Int32) (_ : Unit) => r = (-1)) wAny (va_A [(ma 0, .inr (11, [.ref (ma 1), .ref (ma 2), .int 0, .long 0, .long 1, .ref (ma 3), .ref (ma 4), .ref (ma 5), .ref (ma 6), .ref (ma 7), .int 0, .int 0, .int 0, .int 0, .int 0, .int 0, .int (-1), .int (-1), .int 0, .int 0, .int 0, .ref (ma 8), .int 0, .int 0, .int (-1), .int 0, .int 0, .int 0, .ref (ma 9), .int 0, .int 0, .ref (ma 10), .ref (ma 11), .ref (ma 12), .int 0, .int 0])), (ma 1, .inl (kc 0, 2880, .inl at0))] sz)) 0 0 (va_A [(ma 0, .inr (11, [.ref (ma 1), .ref (ma 2), .int 0, .long 0, .long 1, .ref (ma 3), .ref (ma 4), .ref (ma 5), .ref (ma 6), .ref (ma 7), .int 0, .int 0, .int 0, .int 0, .int 0, .int 0, .int (-1), .int (-1), .int 0, .int 0, .int 0, .ref (ma 8), .int 0, .int 0, .int (-1), .int 0, .int 0, .int 0, .ref (ma 9), .int 0, .int 0, .ref (ma 10), .ref (ma 11), .ref (ma 12), .int 0, .int 0])), (ma 1, .inl (kc 0, 2880, .inl at0))] sz) := by
  refine Met.ofW (cc := cX12_lackAt) (maxL := 4) (ret := (some .int)) (by decide) rfl ?_
  intro p e s m args below meth c s₁ B hml hv
  obtain ⟨rfl, hsz, hP, hE, hD0⟩ := hv
  have hx := B.exec
  have hb := B.bytes
  have hr := B.returns
  have hts := atoms_spec (ws := vq_lackAt) B.pre
  have hown : s.vm.findClass RX12 = some m.cls := findClass_of_methodNamed B.named
  have hlocks := B.notSynchronized
  subst hsz
  have hD := hD0.self (sz := s.heap.size)
  generalize hAe : va_A [(ma 0, .inr (11, [.ref (ma 1), .ref (ma 2), .int 0, .long 0, .long 1, .ref (ma 3), .ref (ma 4), .ref (ma 5), .ref (ma 6), .ref (ma 7), .int 0, .int 0, .int 0, .int 0, .int 0, .int 0, .int (-1), .int (-1), .int 0, .int 0, .int 0, .ref (ma 8), .int 0, .int 0, .int (-1), .int 0, .int 0, .int 0, .ref (ma 9), .int 0, .int 0, .ref (ma 10), .ref (ma 11), .ref (ma 12), .int 0, .int 0])), (ma 1, .inl (kc 0, 2880, .inl at0))] s.heap.size = A at hD ⊢
  have hA : ∀ q : Nat, s.heap.size ≤ q → A q := fun q h => by rw [← hAe]; exact Or.inr h
  have hS : va_S A s.heap s.heap [] := va_S.rf
  have hK := hE.1
  have hP : va_P D vwCl [(ma 0, .inr (11, [.ref (ma 1), .ref (ma 2), .int 0, .long 0, .long 1, .ref (ma 3), .ref (ma 4), .ref (ma 5), .ref (ma 6), .ref (ma 7), .int 0, .int 0, .int 0, .int 0, .int 0, .int 0, .int (-1), .int (-1), .int 0, .int 0, .int 0, .ref (ma 8), .int 0, .int 0, .int (-1), .int 0, .int 0, .int 0, .ref (ma 9), .int 0, .int 0, .ref (ma 10), .ref (ma 11), .ref (ma 12), .int 0, .int 0])), (ma 1, .inl (kc 0, 2880, .inl at0))] s.heap := hP
  have hl := lv_entry ([.ref (ma 0), .int a0, .int a1]) (n := 4) (Nat.le_of_ble_eq_true rfl)
  rw [lg_entry_eq]
  generalize (lg_sl ([.ref (ma 0), .int a0, .int a1]) ++ List.replicate (4 - (lg_sl ([.ref (ma 0), .int a0, .int a1])).length) Slot.unset).toArray = ls at hl ⊢
  have hl : lv_has ls 4 [(0, .ref (ma 0)), (1, .int a0), (2, .int a1)] := hl
  refine lv_aload_n hx hb dX12_lackAt_0 rfl (lv_at hl 0 rfl) ?_
  refine lv_iload_n hx hb dX12_lackAt_1 rfl (lv_at hl 1 rfl) ?_
  have hPc := hP.sub (ws' := [(ma 0, .inr (11, [.ref (ma 1), .ref (ma 2), .int 0, .long 0, .long 1, .ref (ma 3), .ref (ma 4), .ref (ma 5), .ref (ma 6), .ref (ma 7), .int 0, .int 0, .int 0, .int 0, .int 0, .int 0, .int (-1), .int (-1), .int 0, .int 0, .int 0, .ref (ma 8), .int 0, .int 0, .int (-1), .int 0, .int 0, .int 0, .ref (ma 9), .int 0, .int 0, .ref (ma 10), .ref (ma 11), .ref (ma 12), .int 0, .int 0])), (ma 1, .inl (kc 0, 2880, .inl at0))]) [0, 1] rfl
  have hDc := hD.sub (ws' := [(ma 0, .inr (11, [.ref (ma 1), .ref (ma 2), .int 0, .long 0, .long 1, .ref (ma 3), .ref (ma 4), .ref (ma 5), .ref (ma 6), .ref (ma 7), .int 0, .int 0, .int 0, .int 0, .int 0, .int 0, .int (-1), .int (-1), .int 0, .int 0, .int 0, .ref (ma 8), .int 0, .int 0, .int (-1), .int 0, .int 0, .int 0, .ref (ma 9), .int 0, .int 0, .ref (ma 10), .ref (ma 11), .ref (ma 12), .int 0, .int 0])), (ma 1, .inl (kc 0, 2880, .inl at0))]) [0, 1] (by decide) rfl
  have hFc := va_free (wc := [(ma 0, .inr (11, [.ref (ma 1), .ref (ma 2), .int 0, .long 0, .long 1, .ref (ma 3), .ref (ma 4), .ref (ma 5), .ref (ma 6), .ref (ma 7), .int 0, .int 0, .int 0, .int 0, .int 0, .int 0, .int (-1), .int (-1), .int 0, .int 0, .int 0, .ref (ma 8), .int 0, .int 0, .int (-1), .int 0, .int 0, .int 0, .ref (ma 9), .int 0, .int 0, .ref (ma 10), .ref (ma 11), .ref (ma 12), .int 0, .int 0])), (ma 1, .inl (kc 0, 2880, .inl at0))]) hD hS hA [0, 1] rfl
  refine va_calli (va_runV (As := [.int a0]) (rest := []) ⟨hx, hb, hml, hown, hts⟩ (m_isSetOf l D kc s.heap.size ma a0) (cwV 1 hts gq_lackAt_368_m_isSetOf rfl rfl rfl (by decide +kernel) ⟨Nat.le_of_ble_eq_true rfl, Nat.le_of_ble_eq_true rfl⟩) (preV_ok hPc hDc hE (ci := 11) (q0 := 0) rfl rfl) rfl rfl hl.1 rfl (lv_room (Nat.le_of_ble_eq_true rfl)) dX12_lackAt_2 ⟨Nat.le_of_ble_eq_true rfl, Nat.le_of_ble_eq_true rfl⟩) hS (fun q _ h => hFc q h) hFc (fun r_2 u9 t9 H locs ht hvm hw hB hz1 hk1 hS => ?_)
  obtain ⟨hP1, hD1⟩ := hB
  rw [ht] at hP1
  obtain ⟨hP, hD⟩ := va_join (wr := []) (w1 := [(ma 0, .inr (11, [.ref (ma 1), .ref (ma 2), .int 0, .long 0, .long 1, .ref (ma 3), .ref (ma 4), .ref (ma 5), .ref (ma 6), .ref (ma 7), .int 0, .int 0, .int 0, .int 0, .int 0, .int 0, .int (-1), .int (-1), .int 0, .int 0, .int 0, .ref (ma 8), .int 0, .int 0, .int (-1), .int 0, .int 0, .int 0, .ref (ma 9), .int 0, .int 0, .ref (ma 10), .ref (ma 11), .ref (ma 12), .int 0, .int 0])), (ma 1, .inl (kc 0, 2880, .inl at0))]) hP hD [0, 1] [] rfl rfl (by decide) (by decide) hk1 hFc hP1 hD1
  have hP : va_P D vwCl [(ma 0, .inr (11, [.ref (ma 1), .ref (ma 2), .int 0, .long 0, .long 1, .ref (ma 3), .ref (ma 4), .ref (ma 5), .ref (ma 6), .ref (ma 7), .int 0, .int 0, .int 0, .int 0, .int 0, .int 0, .int (-1), .int (-1), .int 0, .int 0, .int 0, .ref (ma 8), .int 0, .int 0, .int (-1), .int 0, .int 0, .int 0, .ref (ma 9), .int 0, .int 0, .ref (ma 10), .ref (ma 11), .ref (ma 12), .int 0, .int 0])), (ma 1, .inl (kc 0, 2880, .inl at0))] H := hP
  have hD : va_D A [(ma 0, .inr (11, [.ref (ma 1), .ref (ma 2), .int 0, .long 0, .long 1, .ref (ma 3), .ref (ma 4), .ref (ma 5), .ref (ma 6), .ref (ma 7), .int 0, .int 0, .int 0, .int 0, .int 0, .int 0, .int (-1), .int (-1), .int 0, .int 0, .int 0, .ref (ma 8), .int 0, .int 0, .int (-1), .int 0, .int 0, .int 0, .ref (ma 9), .int 0, .int 0, .ref (ma 10), .ref (ma 11), .ref (ma 12), .int 0, .int 0])), (ma 1, .inl (kc 0, 2880, .inl at0))] := hD
  subst hw
  refine lv_if_ne (tgt := 12) hx hb dX12_lackAt_5 (by decide) (fun c_5 => ?_) (fun c_5 => ?_)
  · refine lv_aload_n hx hb dX12_lackAt_12 rfl (lv_at hl 0 rfl) ?_
    refine lv_iload_n hx hb dX12_lackAt_13 rfl (lv_at hl 2 rfl) ?_
    have hPc := hP.sub (ws' := [(ma 0, .inr (11, [.ref (ma 1), .ref (ma 2), .int 0, .long 0, .long 1, .ref (ma 3), .ref (ma 4), .ref (ma 5), .ref (ma 6), .ref (ma 7), .int 0, .int 0, .int 0, .int 0, .int 0, .int 0, .int (-1), .int (-1), .int 0, .int 0, .int 0, .ref (ma 8), .int 0, .int 0, .int (-1), .int 0, .int 0, .int 0, .ref (ma 9), .int 0, .int 0, .ref (ma 10), .ref (ma 11), .ref (ma 12), .int 0, .int 0])), (ma 1, .inl (kc 0, 2880, .inl at0))]) [0, 1] rfl
    have hDc := hD.sub (ws' := [(ma 0, .inr (11, [.ref (ma 1), .ref (ma 2), .int 0, .long 0, .long 1, .ref (ma 3), .ref (ma 4), .ref (ma 5), .ref (ma 6), .ref (ma 7), .int 0, .int 0, .int 0, .int 0, .int 0, .int 0, .int (-1), .int (-1), .int 0, .int 0, .int 0, .ref (ma 8), .int 0, .int 0, .int (-1), .int 0, .int 0, .int 0, .ref (ma 9), .int 0, .int 0, .ref (ma 10), .ref (ma 11), .ref (ma 12), .int 0, .int 0])), (ma 1, .inl (kc 0, 2880, .inl at0))]) [0, 1] (by decide) rfl
    have hFc := va_free (wc := [(ma 0, .inr (11, [.ref (ma 1), .ref (ma 2), .int 0, .long 0, .long 1, .ref (ma 3), .ref (ma 4), .ref (ma 5), .ref (ma 6), .ref (ma 7), .int 0, .int 0, .int 0, .int 0, .int 0, .int 0, .int (-1), .int (-1), .int 0, .int 0, .int 0, .ref (ma 8), .int 0, .int 0, .int (-1), .int 0, .int 0, .int 0, .ref (ma 9), .int 0, .int 0, .ref (ma 10), .ref (ma 11), .ref (ma 12), .int 0, .int 0])), (ma 1, .inl (kc 0, 2880, .inl at0))]) hD hS hA [0, 1] rfl
    refine va_calli (va_runV (As := [.int a1]) (rest := []) ⟨hx, hb, hml, hown, hts⟩ (m_wrongStep l D kc H.size ma a1) (cwV 1 hts gq_lackAt_263_m_wrongStep rfl rfl rfl (by decide +kernel) ⟨Nat.le_of_ble_eq_true rfl, Nat.le_of_ble_eq_true rfl⟩) (preV_ok hPc hDc hE (ci := 11) (q0 := 0) rfl rfl) rfl rfl hl.1 rfl (lv_room (Nat.le_of_ble_eq_true rfl)) dX12_lackAt_14 ⟨Nat.le_of_ble_eq_true rfl, Nat.le_of_ble_eq_true rfl⟩) hS (fun q _ h => hFc q h) hFc (fun r_14_1 u9 t9 H locs ht hvm hw hB hz1 hk1 hS => ?_)
    obtain ⟨hP1, hD1⟩ := hB
    rw [ht] at hP1
    obtain ⟨hP, hD⟩ := va_join (wr := []) (w1 := [(ma 0, .inr (11, [.ref (ma 1), .ref (ma 2), .int 0, .long 0, .long 1, .ref (ma 3), .ref (ma 4), .ref (ma 5), .ref (ma 6), .ref (ma 7), .int 0, .int 0, .int 0, .int 0, .int 0, .int 0, .int (-1), .int (-1), .int 0, .int 0, .int 0, .ref (ma 8), .int 0, .int 0, .int (-1), .int 0, .int 0, .int 0, .ref (ma 9), .int 0, .int 0, .ref (ma 10), .ref (ma 11), .ref (ma 12), .int 0, .int 0])), (ma 1, .inl (kc 0, 2880, .inl at0))]) hP hD [0, 1] [] rfl rfl (by decide) (by decide) hk1 hFc hP1 hD1
    have hP : va_P D vwCl [(ma 0, .inr (11, [.ref (ma 1), .ref (ma 2), .int 0, .long 0, .long 1, .ref (ma 3), .ref (ma 4), .ref (ma 5), .ref (ma 6), .ref (ma 7), .int 0, .int 0, .int 0, .int 0, .int 0, .int 0, .int (-1), .int (-1), .int 0, .int 0, .int 0, .ref (ma 8), .int 0, .int 0, .int (-1), .int 0, .int 0, .int 0, .ref (ma 9), .int 0, .int 0, .ref (ma 10), .ref (ma 11), .ref (ma 12), .int 0, .int 0])), (ma 1, .inl (kc 0, 2880, .inl at0))] H := hP
    have hD : va_D A [(ma 0, .inr (11, [.ref (ma 1), .ref (ma 2), .int 0, .long 0, .long 1, .ref (ma 3), .ref (ma 4), .ref (ma 5), .ref (ma 6), .ref (ma 7), .int 0, .int 0, .int 0, .int 0, .int 0, .int 0, .int (-1), .int (-1), .int 0, .int 0, .int 0, .ref (ma 8), .int 0, .int 0, .int (-1), .int 0, .int 0, .int 0, .ref (ma 9), .int 0, .int 0, .ref (ma 10), .ref (ma 11), .ref (ma 12), .int 0, .int 0])), (ma 1, .inl (kc 0, 2880, .inl at0))] := hD
    subst hw
    refine lv_istore_n (lv' := [(3, .int 1), (0, .ref (ma 0)), (1, .int a0), (2, .int a1)]) hx hb dX12_lackAt_17 rfl hl (by decide) rfl (fun ls hl => ?_)
    refine lv_iload_n hx hb dX12_lackAt_18 rfl (lv_at hl 0 rfl) ?_
    refine lv_if_le (tgt := 30) hx hb dX12_lackAt_19 (by decide) (fun h => absurd h (by decide)) (fun _ => ?_)
    refine lv_aload_n hx hb dX12_lackAt_22 rfl (lv_at hl 1 rfl) ?_
    refine lv_iload_n hx hb dX12_lackAt_23 rfl (lv_at hl 0 rfl) ?_
    have hPc := hP.sub (ws' := [(ma 0, .inr (11, [.ref (ma 1), .ref (ma 2), .int 0, .long 0, .long 1, .ref (ma 3), .ref (ma 4), .ref (ma 5), .ref (ma 6), .ref (ma 7), .int 0, .int 0, .int 0, .int 0, .int 0, .int 0, .int (-1), .int (-1), .int 0, .int 0, .int 0, .ref (ma 8), .int 0, .int 0, .int (-1), .int 0, .int 0, .int 0, .ref (ma 9), .int 0, .int 0, .ref (ma 10), .ref (ma 11), .ref (ma 12), .int 0, .int 0]))]) [0] rfl
    have hDc := hD.sub (ws' := [(ma 0, .inr (11, [.ref (ma 1), .ref (ma 2), .int 0, .long 0, .long 1, .ref (ma 3), .ref (ma 4), .ref (ma 5), .ref (ma 6), .ref (ma 7), .int 0, .int 0, .int 0, .int 0, .int 0, .int 0, .int (-1), .int (-1), .int 0, .int 0, .int 0, .ref (ma 8), .int 0, .int 0, .int (-1), .int 0, .int 0, .int 0, .ref (ma 9), .int 0, .int 0, .ref (ma 10), .ref (ma 11), .ref (ma 12), .int 0, .int 0]))]) [0] (by decide) rfl
    have hFc := va_free (wc := [(ma 0, .inr (11, [.ref (ma 1), .ref (ma 2), .int 0, .long 0, .long 1, .ref (ma 3), .ref (ma 4), .ref (ma 5), .ref (ma 6), .ref (ma 7), .int 0, .int 0, .int 0, .int 0, .int 0, .int 0, .int (-1), .int (-1), .int 0, .int 0, .int 0, .ref (ma 8), .int 0, .int 0, .int (-1), .int 0, .int 0, .int 0, .ref (ma 9), .int 0, .int 0, .ref (ma 10), .ref (ma 11), .ref (ma 12), .int 0, .int 0]))]) hD hS hA [0] rfl
    refine va_calli (va_runV (As := [.int 1]) (rest := []) ⟨hx, hb, hml, hown, hts⟩ (m_refuse l D kc H.size ma 0 0 1 0 0 0 0 0 0 (-1) (-1) 0 0 0 0 0 (-1) 0 0 0 0 0 0 0 1) (cwV 1 hts gq_lackAt_72_m_refuse rfl rfl rfl (by decide +kernel) ⟨Nat.le_of_ble_eq_true rfl, Nat.le_of_ble_eq_true rfl⟩) (preV_ok hPc hDc hE (ci := 11) (q0 := 0) rfl rfl) rfl rfl hl.1 rfl (lv_room (Nat.le_of_ble_eq_true rfl)) dX12_lackAt_24 ⟨Nat.le_of_ble_eq_true rfl, Nat.le_of_ble_eq_true rfl⟩) hS (fun q _ h => hFc q h) hFc (fun r_24_1 u9 t9 H locs ht hvm hw hB hz1 hk1 hS => ?_)
    obtain ⟨hP1, hD1⟩ := hB
    rw [ht] at hP1
    obtain ⟨hP, hD⟩ := va_join (wr := [(ma 1, .inl (kc 0, 2880, .inl at0))]) (w1 := [(ma 0, .inr (11, [.ref (ma 1), .ref (ma 2), .int 1, .long 0, .long 1, .ref (ma 3), .ref (ma 4), .ref (ma 5), .ref (ma 6), .ref (ma 7), .int 0, .int 0, .int 0, .int 0, .int 0, .int 0, .int (-1), .int (-1), .int 0, .int 0, .int 0, .ref (ma 8), .int 0, .int 0, .int (-1), .int 0, .int 0, .int 0, .ref (ma 9), .int 0, .int 0, .ref (ma 10), .ref (ma 11), .ref (ma 12), .int 0, .int 0]))]) hP hD [0] [1] rfl rfl (by decide) (by decide) hk1 hFc hP1 hD1
    have hP : va_P D vwCl [(ma 1, .inl (kc 0, 2880, .inl at0)), (ma 0, .inr (11, [.ref (ma 1), .ref (ma 2), .int 1, .long 0, .long 1, .ref (ma 3), .ref (ma 4), .ref (ma 5), .ref (ma 6), .ref (ma 7), .int 0, .int 0, .int 0, .int 0, .int 0, .int 0, .int (-1), .int (-1), .int 0, .int 0, .int 0, .ref (ma 8), .int 0, .int 0, .int (-1), .int 0, .int 0, .int 0, .ref (ma 9), .int 0, .int 0, .ref (ma 10), .ref (ma 11), .ref (ma 12), .int 0, .int 0]))] H := hP
    have hD : va_D A [(ma 1, .inl (kc 0, 2880, .inl at0)), (ma 0, .inr (11, [.ref (ma 1), .ref (ma 2), .int 1, .long 0, .long 1, .ref (ma 3), .ref (ma 4), .ref (ma 5), .ref (ma 6), .ref (ma 7), .int 0, .int 0, .int 0, .int 0, .int 0, .int 0, .int (-1), .int (-1), .int 0, .int 0, .int 0, .ref (ma 8), .int 0, .int 0, .int (-1), .int 0, .int 0, .int 0, .ref (ma 9), .int 0, .int 0, .ref (ma 10), .ref (ma 11), .ref (ma 12), .int 0, .int 0]))] := hD
    subst hw
    refine lv_goto (tgt := 40) hx hb dX12_lackAt_27 (by decide) ?_
    exact W.iret (v := (-1)) hx hb hr (fun t9 ht hW => ⟨⟨(-1), (), rfl, rfl, trivial⟩, hS.F ht⟩) hS.2.2 dX12_lackAt_40
  · refine lv_iconst (v := 1) hx hb dX12_lackAt_8 (by decide) ?_
    refine lv_goto (tgt := 17) hx hb dX12_lackAt_9 (by decide) ?_
    refine lv_istore_n (lv' := [(3, .int 1), (0, .ref (ma 0)), (1, .int a0), (2, .int a1)]) hx hb dX12_lackAt_17 rfl hl (by decide) rfl (fun ls hl => ?_)
    refine lv_iload_n hx hb dX12_lackAt_18 rfl (lv_at hl 0 rfl) ?_
    refine lv_if_le (tgt := 30) hx hb dX12_lackAt_19 (by decide) (fun h => absurd h (by decide)) (fun _ => ?_)
    refine lv_aload_n hx hb dX12_lackAt_22 rfl (lv_at hl 1 rfl) ?_
    refine lv_iload_n hx hb dX12_lackAt_23 rfl (lv_at hl 0 rfl) ?_
    have hPc := hP.sub (ws' := [(ma 0, .inr (11, [.ref (ma 1), .ref (ma 2), .int 0, .long 0, .long 1, .ref (ma 3), .ref (ma 4), .ref (ma 5), .ref (ma 6), .ref (ma 7), .int 0, .int 0, .int 0, .int 0, .int 0, .int 0, .int (-1), .int (-1), .int 0, .int 0, .int 0, .ref (ma 8), .int 0, .int 0, .int (-1), .int 0, .int 0, .int 0, .ref (ma 9), .int 0, .int 0, .ref (ma 10), .ref (ma 11), .ref (ma 12), .int 0, .int 0]))]) [0] rfl
    have hDc := hD.sub (ws' := [(ma 0, .inr (11, [.ref (ma 1), .ref (ma 2), .int 0, .long 0, .long 1, .ref (ma 3), .ref (ma 4), .ref (ma 5), .ref (ma 6), .ref (ma 7), .int 0, .int 0, .int 0, .int 0, .int 0, .int 0, .int (-1), .int (-1), .int 0, .int 0, .int 0, .ref (ma 8), .int 0, .int 0, .int (-1), .int 0, .int 0, .int 0, .ref (ma 9), .int 0, .int 0, .ref (ma 10), .ref (ma 11), .ref (ma 12), .int 0, .int 0]))]) [0] (by decide) rfl
    have hFc := va_free (wc := [(ma 0, .inr (11, [.ref (ma 1), .ref (ma 2), .int 0, .long 0, .long 1, .ref (ma 3), .ref (ma 4), .ref (ma 5), .ref (ma 6), .ref (ma 7), .int 0, .int 0, .int 0, .int 0, .int 0, .int 0, .int (-1), .int (-1), .int 0, .int 0, .int 0, .ref (ma 8), .int 0, .int 0, .int (-1), .int 0, .int 0, .int 0, .ref (ma 9), .int 0, .int 0, .ref (ma 10), .ref (ma 11), .ref (ma 12), .int 0, .int 0]))]) hD hS hA [0] rfl
    refine va_calli (va_runV (As := [.int 1]) (rest := []) ⟨hx, hb, hml, hown, hts⟩ (m_refuse l D kc H.size ma 0 0 1 0 0 0 0 0 0 (-1) (-1) 0 0 0 0 0 (-1) 0 0 0 0 0 0 0 1) (cwV 1 hts gq_lackAt_72_m_refuse rfl rfl rfl (by decide +kernel) ⟨Nat.le_of_ble_eq_true rfl, Nat.le_of_ble_eq_true rfl⟩) (preV_ok hPc hDc hE (ci := 11) (q0 := 0) rfl rfl) rfl rfl hl.1 rfl (lv_room (Nat.le_of_ble_eq_true rfl)) dX12_lackAt_24 ⟨Nat.le_of_ble_eq_true rfl, Nat.le_of_ble_eq_true rfl⟩) hS (fun q _ h => hFc q h) hFc (fun r_24_1 u9 t9 H locs ht hvm hw hB hz1 hk1 hS => ?_)
    obtain ⟨hP1, hD1⟩ := hB
    rw [ht] at hP1
    obtain ⟨hP, hD⟩ := va_join (wr := [(ma 1, .inl (kc 0, 2880, .inl at0))]) (w1 := [(ma 0, .inr (11, [.ref (ma 1), .ref (ma 2), .int 1, .long 0, .long 1, .ref (ma 3), .ref (ma 4), .ref (ma 5), .ref (ma 6), .ref (ma 7), .int 0, .int 0, .int 0, .int 0, .int 0, .int 0, .int (-1), .int (-1), .int 0, .int 0, .int 0, .ref (ma 8), .int 0, .int 0, .int (-1), .int 0, .int 0, .int 0, .ref (ma 9), .int 0, .int 0, .ref (ma 10), .ref (ma 11), .ref (ma 12), .int 0, .int 0]))]) hP hD [0] [1] rfl rfl (by decide) (by decide) hk1 hFc hP1 hD1
    have hP : va_P D vwCl [(ma 1, .inl (kc 0, 2880, .inl at0)), (ma 0, .inr (11, [.ref (ma 1), .ref (ma 2), .int 1, .long 0, .long 1, .ref (ma 3), .ref (ma 4), .ref (ma 5), .ref (ma 6), .ref (ma 7), .int 0, .int 0, .int 0, .int 0, .int 0, .int 0, .int (-1), .int (-1), .int 0, .int 0, .int 0, .ref (ma 8), .int 0, .int 0, .int (-1), .int 0, .int 0, .int 0, .ref (ma 9), .int 0, .int 0, .ref (ma 10), .ref (ma 11), .ref (ma 12), .int 0, .int 0]))] H := hP
    have hD : va_D A [(ma 1, .inl (kc 0, 2880, .inl at0)), (ma 0, .inr (11, [.ref (ma 1), .ref (ma 2), .int 1, .long 0, .long 1, .ref (ma 3), .ref (ma 4), .ref (ma 5), .ref (ma 6), .ref (ma 7), .int 0, .int 0, .int 0, .int 0, .int 0, .int 0, .int (-1), .int (-1), .int 0, .int 0, .int 0, .ref (ma 8), .int 0, .int 0, .int (-1), .int 0, .int 0, .int 0, .ref (ma 9), .int 0, .int 0, .ref (ma 10), .ref (ma 11), .ref (ma 12), .int 0, .int 0]))] := hD
    subst hw
    refine lv_goto (tgt := 40) hx hb dX12_lackAt_27 (by decide) ?_
    exact W.iret (v := (-1)) hx hb hr (fun t9 ht hW => ⟨⟨(-1), (), rfl, rfl, trivial⟩, hS.F ht⟩) hS.2.2 dX12_lackAt_40
theorem dX12_freed_0 : decode cX12_freed 0 = .ok (.aload_n 0, 1) := by decide +kernel
theorem dX12_freed_1 : decode cX12_freed 1 = .ok (.iload_n 1, 1) := by decide +kernel
theorem dX12_freed_2 : decode cX12_freed 2 = .ok (.invokevirtual 269, 3) := by decide +kernel
theorem dX12_freed_5 : decode cX12_freed 5 = .ok (.ifCond .ne 9, 3) := by decide +kernel
theorem dX12_freed_8 : decode cX12_freed 8 = .ok (.aload_n 0, 1) := by decide +kernel
theorem dX12_freed_9 : decode cX12_freed 9 = .ok (.iconst 1, 1) := by decide +kernel
theorem dX12_freed_10 : decode cX12_freed 10 = .ok (.invokevirtual 72, 3) := by decide +kernel
theorem dX12_freed_13 : decode cX12_freed 13 = .ok (.ireturn, 1) := by decide +kernel
def vdq_freed : List Cond := [.code yX12_freed cX12_freed 4 (some .int), .methodLink RX12 269 yX12_isQuarrel, .code yX12_isQuarrel cX12_isQuarrel 2 (some .boolean), .fieldLink RX12 7 "SaltStreetModel" "at" "[I", .instanceMethod yX12_isQuarrel, .selects RX12 yX12_isQuarrel yX12_isQuarrel, .initialized RX12, .methodLink RX12 72 yX12_refuse, .code yX12_refuse cX12_refuse 2 (some .int), .fieldLink RX12 66 "SaltStreetModel" "status" "I", .instanceMethod yX12_refuse, .selects RX12 yX12_refuse yX12_refuse]
def vq_freed : List Cond := vdq_freed ++ (wsX120 ++ ([] : List Cond))
theorem iq_freed_X12 : ∀ w ∈ wsX120, w ∈ vq_freed := fun _ h => List.mem_append_right _ (List.mem_append_left _ h)
set_option maxRecDepth 20000 in
theorem gq_freed_269_m_isQuarrel : GoodIn vq_freed (wsV RX12 269 RX12 yX12_isQuarrel vm_isQuarrel) := (goodIn_app (goodIn_r _ [1, 4, 5, 6] rfl (by decide +kernel)) (goodIn_app (goodIn_r vdm_isQuarrel [2, 3] rfl (by decide +kernel)) (goodIn_app (goodIn_sub iq_freed_X12 gdX12) goodIn_nil)))
set_option maxRecDepth 20000 in
theorem gq_freed_72_m_refuse : GoodIn vq_freed (wsV RX12 72 RX12 yX12_refuse vm_refuse) := (goodIn_app (goodIn_r _ [7, 10, 11, 6] rfl (by decide +kernel)) (goodIn_app (goodIn_r vdm_refuse [8, 9] rfl (by decide +kernel)) (goodIn_app (goodIn_sub iq_freed_X12 gdX12) goodIn_nil)))
set_option maxHeartbeats 4000000 in
set_option maxRecDepth 100000 in
theorem q_freed (l : Launch) (D : va_G) (kc : Nat → ClassId) (sz : Nat) (ma : Nat → Nat) (a0 : Int32) : Met l yX12_freed vq_freed ({ frames := 1, cells := 0, slots := 0, locals := 21 }) (va_Pc [.ref (ma 0), .int a0] (wPre D kc [(ma 0, .inr (11, [.ref (ma 1), .ref (ma 2), .int 0, .long 0, .long 1, .ref (ma 3), .ref (ma 4), .ref (ma 5), .ref (ma 6), .ref (ma 7), .int 0, .int 0, .int 0, .int 0, .int 0, .int 0, .int (-1), .int (-1), .int 0, .int 0, .int 0, .ref (ma 8), .int 0, .int 0, .int (-1), .int 0, .int 0, .int 0, .ref (ma 9), .int 0, .int 0, .ref (ma 10), .ref (ma 11), .ref (ma 12), .int 0, .int 0])), (ma 1, .inl (kc 0, 2880, .inl at0))] sz)) (va_Qi (fun (r : Int32) (_ : Unit) => r = (-1)) wAny (va_A [(ma 0, .inr (11, [.ref (ma 1), .ref (ma 2), .int 0, .long 0, .long 1, .ref (ma 3), .ref (ma 4), .ref (ma 5), .ref (ma 6), .ref (ma 7), .int 0, .int 0, .int 0, .int 0, .int 0, .int 0, .int (-1), .int (-1), .int 0, .int 0, .int 0, .ref (ma 8), .int 0, .int 0, .int (-1), .int 0, .int 0, .int 0, .ref (ma 9), .int 0, .int 0, .ref (ma 10), .ref (ma 11), .ref (ma 12), .int 0, .int 0])), (ma 1, .inl (kc 0, 2880, .inl at0))] sz)) 0 0 (va_A [(ma 0, .inr (11, [.ref (ma 1), .ref (ma 2), .int 0, .long 0, .long 1, .ref (ma 3), .ref (ma 4), .ref (ma 5), .ref (ma 6), .ref (ma 7), .int 0, .int 0, .int 0, .int 0, .int 0, .int 0, .int (-1), .int (-1), .int 0, .int 0, .int 0, .ref (ma 8), .int 0, .int 0, .int (-1), .int 0, .int 0, .int 0, .ref (ma 9), .int 0, .int 0, .ref (ma 10), .ref (ma 11), .ref (ma 12), .int 0, .int 0])), (ma 1, .inl (kc 0, 2880, .inl at0))] sz) := by
  refine Met.ofW (cc := cX12_freed) (maxL := 4) (ret := (some .int)) (by decide) rfl ?_
  intro p e s m args below meth c s₁ B hml hv
  obtain ⟨rfl, hsz, hP, hE, hD0⟩ := hv
  have hx := B.exec
  have hb := B.bytes
  have hr := B.returns
  have hts := atoms_spec (ws := vq_freed) B.pre
  have hown : s.vm.findClass RX12 = some m.cls := findClass_of_methodNamed B.named
  have hlocks := B.notSynchronized
  subst hsz
  have hD := hD0.self (sz := s.heap.size)
  generalize hAe : va_A [(ma 0, .inr (11, [.ref (ma 1), .ref (ma 2), .int 0, .long 0, .long 1, .ref (ma 3), .ref (ma 4), .ref (ma 5), .ref (ma 6), .ref (ma 7), .int 0, .int 0, .int 0, .int 0, .int 0, .int 0, .int (-1), .int (-1), .int 0, .int 0, .int 0, .ref (ma 8), .int 0, .int 0, .int (-1), .int 0, .int 0, .int 0, .ref (ma 9), .int 0, .int 0, .ref (ma 10), .ref (ma 11), .ref (ma 12), .int 0, .int 0])), (ma 1, .inl (kc 0, 2880, .inl at0))] s.heap.size = A at hD ⊢
  have hA : ∀ q : Nat, s.heap.size ≤ q → A q := fun q h => by rw [← hAe]; exact Or.inr h
  have hS : va_S A s.heap s.heap [] := va_S.rf
  have hK := hE.1
  have hP : va_P D vwCl [(ma 0, .inr (11, [.ref (ma 1), .ref (ma 2), .int 0, .long 0, .long 1, .ref (ma 3), .ref (ma 4), .ref (ma 5), .ref (ma 6), .ref (ma 7), .int 0, .int 0, .int 0, .int 0, .int 0, .int 0, .int (-1), .int (-1), .int 0, .int 0, .int 0, .ref (ma 8), .int 0, .int 0, .int (-1), .int 0, .int 0, .int 0, .ref (ma 9), .int 0, .int 0, .ref (ma 10), .ref (ma 11), .ref (ma 12), .int 0, .int 0])), (ma 1, .inl (kc 0, 2880, .inl at0))] s.heap := hP
  have hl := lv_entry ([.ref (ma 0), .int a0]) (n := 4) (Nat.le_of_ble_eq_true rfl)
  rw [lg_entry_eq]
  generalize (lg_sl ([.ref (ma 0), .int a0]) ++ List.replicate (4 - (lg_sl ([.ref (ma 0), .int a0])).length) Slot.unset).toArray = ls at hl ⊢
  have hl : lv_has ls 4 [(0, .ref (ma 0)), (1, .int a0)] := hl
  refine lv_aload_n hx hb dX12_freed_0 rfl (lv_at hl 0 rfl) ?_
  refine lv_iload_n hx hb dX12_freed_1 rfl (lv_at hl 1 rfl) ?_
  have hPc := hP.sub (ws' := [(ma 0, .inr (11, [.ref (ma 1), .ref (ma 2), .int 0, .long 0, .long 1, .ref (ma 3), .ref (ma 4), .ref (ma 5), .ref (ma 6), .ref (ma 7), .int 0, .int 0, .int 0, .int 0, .int 0, .int 0, .int (-1), .int (-1), .int 0, .int 0, .int 0, .ref (ma 8), .int 0, .int 0, .int (-1), .int 0, .int 0, .int 0, .ref (ma 9), .int 0, .int 0, .ref (ma 10), .ref (ma 11), .ref (ma 12), .int 0, .int 0])), (ma 1, .inl (kc 0, 2880, .inl at0))]) [0, 1] rfl
  have hDc := hD.sub (ws' := [(ma 0, .inr (11, [.ref (ma 1), .ref (ma 2), .int 0, .long 0, .long 1, .ref (ma 3), .ref (ma 4), .ref (ma 5), .ref (ma 6), .ref (ma 7), .int 0, .int 0, .int 0, .int 0, .int 0, .int 0, .int (-1), .int (-1), .int 0, .int 0, .int 0, .ref (ma 8), .int 0, .int 0, .int (-1), .int 0, .int 0, .int 0, .ref (ma 9), .int 0, .int 0, .ref (ma 10), .ref (ma 11), .ref (ma 12), .int 0, .int 0])), (ma 1, .inl (kc 0, 2880, .inl at0))]) [0, 1] (by decide) rfl
  have hFc := va_free (wc := [(ma 0, .inr (11, [.ref (ma 1), .ref (ma 2), .int 0, .long 0, .long 1, .ref (ma 3), .ref (ma 4), .ref (ma 5), .ref (ma 6), .ref (ma 7), .int 0, .int 0, .int 0, .int 0, .int 0, .int 0, .int (-1), .int (-1), .int 0, .int 0, .int 0, .ref (ma 8), .int 0, .int 0, .int (-1), .int 0, .int 0, .int 0, .ref (ma 9), .int 0, .int 0, .ref (ma 10), .ref (ma 11), .ref (ma 12), .int 0, .int 0])), (ma 1, .inl (kc 0, 2880, .inl at0))]) hD hS hA [0, 1] rfl
  refine va_calli (va_runV (As := [.int a0]) (rest := []) ⟨hx, hb, hml, hown, hts⟩ (m_isQuarrel l D kc s.heap.size ma a0) (cwV 1 hts gq_freed_269_m_isQuarrel rfl rfl rfl (by decide +kernel) ⟨Nat.le_of_ble_eq_true rfl, Nat.le_of_ble_eq_true rfl⟩) (preV_ok hPc hDc hE (ci := 11) (q0 := 0) rfl rfl) rfl rfl hl.1 rfl (lv_room (Nat.le_of_ble_eq_true rfl)) dX12_freed_2 ⟨Nat.le_of_ble_eq_true rfl, Nat.le_of_ble_eq_true rfl⟩) hS (fun q _ h => hFc q h) hFc (fun r_2 u9 t9 H locs ht hvm hw hB hz1 hk1 hS => ?_)
  obtain ⟨hP1, hD1⟩ := hB
  rw [ht] at hP1
  obtain ⟨hP, hD⟩ := va_join (wr := []) (w1 := [(ma 0, .inr (11, [.ref (ma 1), .ref (ma 2), .int 0, .long 0, .long 1, .ref (ma 3), .ref (ma 4), .ref (ma 5), .ref (ma 6), .ref (ma 7), .int 0, .int 0, .int 0, .int 0, .int 0, .int 0, .int (-1), .int (-1), .int 0, .int 0, .int 0, .ref (ma 8), .int 0, .int 0, .int (-1), .int 0, .int 0, .int 0, .ref (ma 9), .int 0, .int 0, .ref (ma 10), .ref (ma 11), .ref (ma 12), .int 0, .int 0])), (ma 1, .inl (kc 0, 2880, .inl at0))]) hP hD [0, 1] [] rfl rfl (by decide) (by decide) hk1 hFc hP1 hD1
  have hP : va_P D vwCl [(ma 0, .inr (11, [.ref (ma 1), .ref (ma 2), .int 0, .long 0, .long 1, .ref (ma 3), .ref (ma 4), .ref (ma 5), .ref (ma 6), .ref (ma 7), .int 0, .int 0, .int 0, .int 0, .int 0, .int 0, .int (-1), .int (-1), .int 0, .int 0, .int 0, .ref (ma 8), .int 0, .int 0, .int (-1), .int 0, .int 0, .int 0, .ref (ma 9), .int 0, .int 0, .ref (ma 10), .ref (ma 11), .ref (ma 12), .int 0, .int 0])), (ma 1, .inl (kc 0, 2880, .inl at0))] H := hP
  have hD : va_D A [(ma 0, .inr (11, [.ref (ma 1), .ref (ma 2), .int 0, .long 0, .long 1, .ref (ma 3), .ref (ma 4), .ref (ma 5), .ref (ma 6), .ref (ma 7), .int 0, .int 0, .int 0, .int 0, .int 0, .int 0, .int (-1), .int (-1), .int 0, .int 0, .int 0, .ref (ma 8), .int 0, .int 0, .int (-1), .int 0, .int 0, .int 0, .ref (ma 9), .int 0, .int 0, .ref (ma 10), .ref (ma 11), .ref (ma 12), .int 0, .int 0])), (ma 1, .inl (kc 0, 2880, .inl at0))] := hD
  subst hw
  refine lv_if_ne (tgt := 14) hx hb dX12_freed_5 (by decide) (fun h => absurd (by decide) h) (fun _ => ?_)
  refine lv_aload_n hx hb dX12_freed_8 rfl (lv_at hl 0 rfl) ?_
  refine lv_iconst (v := 1) hx hb dX12_freed_9 (by decide) ?_
  have hPc := hP.sub (ws' := [(ma 0, .inr (11, [.ref (ma 1), .ref (ma 2), .int 0, .long 0, .long 1, .ref (ma 3), .ref (ma 4), .ref (ma 5), .ref (ma 6), .ref (ma 7), .int 0, .int 0, .int 0, .int 0, .int 0, .int 0, .int (-1), .int (-1), .int 0, .int 0, .int 0, .ref (ma 8), .int 0, .int 0, .int (-1), .int 0, .int 0, .int 0, .ref (ma 9), .int 0, .int 0, .ref (ma 10), .ref (ma 11), .ref (ma 12), .int 0, .int 0]))]) [0] rfl
  have hDc := hD.sub (ws' := [(ma 0, .inr (11, [.ref (ma 1), .ref (ma 2), .int 0, .long 0, .long 1, .ref (ma 3), .ref (ma 4), .ref (ma 5), .ref (ma 6), .ref (ma 7), .int 0, .int 0, .int 0, .int 0, .int 0, .int 0, .int (-1), .int (-1), .int 0, .int 0, .int 0, .ref (ma 8), .int 0, .int 0, .int (-1), .int 0, .int 0, .int 0, .ref (ma 9), .int 0, .int 0, .ref (ma 10), .ref (ma 11), .ref (ma 12), .int 0, .int 0]))]) [0] (by decide) rfl
  have hFc := va_free (wc := [(ma 0, .inr (11, [.ref (ma 1), .ref (ma 2), .int 0, .long 0, .long 1, .ref (ma 3), .ref (ma 4), .ref (ma 5), .ref (ma 6), .ref (ma 7), .int 0, .int 0, .int 0, .int 0, .int 0, .int 0, .int (-1), .int (-1), .int 0, .int 0, .int 0, .ref (ma 8), .int 0, .int 0, .int (-1), .int 0, .int 0, .int 0, .ref (ma 9), .int 0, .int 0, .ref (ma 10), .ref (ma 11), .ref (ma 12), .int 0, .int 0]))]) hD hS hA [0] rfl
  refine va_calli (va_runV (As := [.int 1]) (rest := []) ⟨hx, hb, hml, hown, hts⟩ (m_refuse l D kc H.size ma 0 0 1 0 0 0 0 0 0 (-1) (-1) 0 0 0 0 0 (-1) 0 0 0 0 0 0 0 1) (cwV 1 hts gq_freed_72_m_refuse rfl rfl rfl (by decide +kernel) ⟨Nat.le_of_ble_eq_true rfl, Nat.le_of_ble_eq_true rfl⟩) (preV_ok hPc hDc hE (ci := 11) (q0 := 0) rfl rfl) rfl rfl hl.1 rfl (lv_room (Nat.le_of_ble_eq_true rfl)) dX12_freed_10 ⟨Nat.le_of_ble_eq_true rfl, Nat.le_of_ble_eq_true rfl⟩) hS (fun q _ h => hFc q h) hFc (fun r_10 u9 t9 H locs ht hvm hw hB hz1 hk1 hS => ?_)
  obtain ⟨hP1, hD1⟩ := hB
  rw [ht] at hP1
  obtain ⟨hP, hD⟩ := va_join (wr := [(ma 1, .inl (kc 0, 2880, .inl at0))]) (w1 := [(ma 0, .inr (11, [.ref (ma 1), .ref (ma 2), .int 1, .long 0, .long 1, .ref (ma 3), .ref (ma 4), .ref (ma 5), .ref (ma 6), .ref (ma 7), .int 0, .int 0, .int 0, .int 0, .int 0, .int 0, .int (-1), .int (-1), .int 0, .int 0, .int 0, .ref (ma 8), .int 0, .int 0, .int (-1), .int 0, .int 0, .int 0, .ref (ma 9), .int 0, .int 0, .ref (ma 10), .ref (ma 11), .ref (ma 12), .int 0, .int 0]))]) hP hD [0] [1] rfl rfl (by decide) (by decide) hk1 hFc hP1 hD1
  have hP : va_P D vwCl [(ma 1, .inl (kc 0, 2880, .inl at0)), (ma 0, .inr (11, [.ref (ma 1), .ref (ma 2), .int 1, .long 0, .long 1, .ref (ma 3), .ref (ma 4), .ref (ma 5), .ref (ma 6), .ref (ma 7), .int 0, .int 0, .int 0, .int 0, .int 0, .int 0, .int (-1), .int (-1), .int 0, .int 0, .int 0, .ref (ma 8), .int 0, .int 0, .int (-1), .int 0, .int 0, .int 0, .ref (ma 9), .int 0, .int 0, .ref (ma 10), .ref (ma 11), .ref (ma 12), .int 0, .int 0]))] H := hP
  have hD : va_D A [(ma 1, .inl (kc 0, 2880, .inl at0)), (ma 0, .inr (11, [.ref (ma 1), .ref (ma 2), .int 1, .long 0, .long 1, .ref (ma 3), .ref (ma 4), .ref (ma 5), .ref (ma 6), .ref (ma 7), .int 0, .int 0, .int 0, .int 0, .int 0, .int 0, .int (-1), .int (-1), .int 0, .int 0, .int 0, .ref (ma 8), .int 0, .int 0, .int (-1), .int 0, .int 0, .int 0, .ref (ma 9), .int 0, .int 0, .ref (ma 10), .ref (ma 11), .ref (ma 12), .int 0, .int 0]))] := hD
  subst hw
  exact W.iret (v := (-1)) hx hb hr (fun t9 ht hW => ⟨⟨(-1), (), rfl, rfl, trivial⟩, hS.F ht⟩) hS.2.2 dX12_freed_13
theorem dX12_quiet_0 : decode cX12_quiet 0 = .ok (.iload_n 2, 1) := by decide +kernel
theorem dX12_quiet_1 : decode cX12_quiet 1 = .ok (.i2l, 1) := by decide +kernel
theorem dX12_quiet_2 : decode cX12_quiet 2 = .ok (.lconst 0, 1) := by decide +kernel
theorem dX12_quiet_3 : decode cX12_quiet 3 = .ok (.ldc2_w 296, 3) := by decide +kernel
theorem dX12_quiet_6 : decode cX12_quiet 6 = .ok (.invokestatic 298, 3) := by decide +kernel
theorem dX12_quiet_9 : decode cX12_quiet 9 = .ok (.ifCond .eq 15, 3) := by decide +kernel
theorem dX12_quiet_24 : decode cX12_quiet 24 = .ok (.iconst 1, 1) := by decide +kernel
theorem dX12_quiet_25 : decode cX12_quiet 25 = .ok (.goto 8, 3) := by decide +kernel
theorem dX12_quiet_33 : decode cX12_quiet 33 = .ok (.istore 4, 2) := by decide +kernel
theorem dX12_quiet_35 : decode cX12_quiet 35 = .ok (.iload 4, 2) := by decide +kernel
theorem dX12_quiet_37 : decode cX12_quiet 37 = .ok (.ifCond .le 12, 3) := by decide +kernel
theorem dX12_quiet_40 : decode cX12_quiet 40 = .ok (.aload_n 0, 1) := by decide +kernel
theorem dX12_quiet_41 : decode cX12_quiet 41 = .ok (.iload 4, 2) := by decide +kernel
theorem dX12_quiet_43 : decode cX12_quiet 43 = .ok (.invokevirtual 72, 3) := by decide +kernel
theorem dX12_quiet_46 : decode cX12_quiet 46 = .ok (.goto 32, 3) := by decide +kernel
theorem dX12_quiet_78 : decode cX12_quiet 78 = .ok (.ireturn, 1) := by decide +kernel
theorem dX12_quiet_12 : decode cX12_quiet 12 = .ok (.iload_n 3, 1) := by decide +kernel
theorem dX12_quiet_13 : decode cX12_quiet 13 = .ok (.i2l, 1) := by decide +kernel
theorem dX12_quiet_14 : decode cX12_quiet 14 = .ok (.lconst 0, 1) := by decide +kernel
theorem dX12_quiet_15 : decode cX12_quiet 15 = .ok (.ldc2_w 379, 3) := by decide +kernel
theorem dX12_quiet_18 : decode cX12_quiet 18 = .ok (.invokestatic 298, 3) := by decide +kernel
theorem dX12_quiet_21 : decode cX12_quiet 21 = .ok (.ifCond .ne 7, 3) := by decide +kernel
theorem dX12_quiet_28 : decode cX12_quiet 28 = .ok (.aload_n 0, 1) := by decide +kernel
theorem dX12_quiet_29 : decode cX12_quiet 29 = .ok (.iload_n 1, 1) := by decide +kernel
theorem dX12_quiet_30 : decode cX12_quiet 30 = .ok (.invokevirtual 263, 3) := by decide +kernel
def vdq_quiet : List Cond := [.code yX12_quiet cX12_quiet 5 (some .int), .constantLong RX12 296 (999), .methodLink RX12 298 yX12_isFrom, .code yX12_isFrom cX12_isFrom 6 (some .boolean), .static yX12_isFrom, .initialized RX12, .methodLink RX12 72 yX12_refuse, .code yX12_refuse cX12_refuse 2 (some .int), .fieldLink RX12 66 "SaltStreetModel" "status" "I", .instanceMethod yX12_refuse, .selects RX12 yX12_refuse yX12_refuse, .constantLong RX12 379 (9), .methodLink RX12 263 yX12_wrongStep, .code yX12_wrongStep cX12_wrongStep 2 (some .int), .methodLink RX12 251 yX12_isHouse, .code yX12_isHouse cX12_isHouse 2 (some .boolean), .fieldLink RX12 7 "SaltStreetModel" "at" "[I", .instanceMethod yX12_isHouse, .selects RX12 yX12_isHouse yX12_isHouse, .instanceMethod yX12_wrongStep, .selects RX12 yX12_wrongStep yX12_wrongStep]
def vq_quiet : List Cond := vdq_quiet ++ (wsX120 ++ ([] : List Cond))
theorem iq_quiet_X12 : ∀ w ∈ wsX120, w ∈ vq_quiet := fun _ h => List.mem_append_right _ (List.mem_append_left _ h)
set_option maxRecDepth 20000 in
theorem gq_quiet_298_m_isFrom : GoodIn vq_quiet (va_wsS RX12 298 yX12_isFrom vm_isFrom) := (goodIn_app (goodIn_r _ [2, 4, 5] rfl (by decide +kernel)) (goodIn_app (goodIn_r vdm_isFrom [3] rfl (by decide +kernel)) goodIn_nil))
set_option maxRecDepth 20000 in
theorem gq_quiet_72_m_refuse : GoodIn vq_quiet (wsV RX12 72 RX12 yX12_refuse vm_refuse) := (goodIn_app (goodIn_r _ [6, 9, 10, 5] rfl (by decide +kernel)) (goodIn_app (goodIn_r vdm_refuse [7, 8] rfl (by decide +kernel)) (goodIn_app (goodIn_sub iq_quiet_X12 gdX12) goodIn_nil)))
set_option maxRecDepth 20000 in
theorem gq_quiet_263_m_wrongStep : GoodIn vq_quiet (wsV RX12 263 RX12 yX12_wrongStep vm_wrongStep) := (goodIn_app (goodIn_r _ [12, 19, 20, 5] rfl (by decide +kernel)) (goodIn_app (goodIn_r vdm_wrongStep [13, 14, 15, 16, 17, 18, 5] rfl (by decide +kernel)) (goodIn_app (goodIn_sub iq_quiet_X12 gdX12) goodIn_nil)))
set_option maxHeartbeats 4000000 in
set_option maxRecDepth 100000 in
theorem q_quiet (l : Launch) (D : va_G) (kc : Nat → ClassId) (sz : Nat) (ma : Nat → Nat) (a0 : Int32) (a1 : Int32) (a2 : Int32) : Met l yX12_quiet vq_quiet ({ frames := 2, cells := 0, slots := 0, locals := 42 }) (va_Pc [.ref (ma 0), .int a0, .int a1, .int a2] (wPre D kc [(ma 0, .inr (11, [.ref (ma 1), .ref (ma 2), .int 0, .long 0, .long 1, .ref (ma 3), .ref (ma 4), .ref (ma 5), .ref (ma 6), .ref (ma 7), .int 0, .int 0, .int 0, .int 0, .int 0, .int 0, .int (-1), .int (-1), .int 0, .int 0, .int 0, .ref (ma 8), .int 0, .int 0, .int (-1), .int 0, .int 0, .int 0, .ref (ma 9), .int 0, .int 0, .ref (ma 10), .ref (ma 11), .ref (ma 12), .int 0, .int 0])), (ma 1, .inl (kc 0, 2880, .inl at0))] sz)) (va_Qi (fun (r : Int32) (_ : Unit) => r = (-1)) wAny (va_A [(ma 0, .inr (11, [.ref (ma 1), .ref (ma 2), .int 0, .long 0, .long 1, .ref (ma 3), .ref (ma 4), .ref (ma 5), .ref (ma 6), .ref (ma 7), .int 0, .int 0, .int 0, .int 0, .int 0, .int 0, .int (-1), .int (-1), .int 0, .int 0, .int 0, .ref (ma 8), .int 0, .int 0, .int (-1), .int 0, .int 0, .int 0, .ref (ma 9), .int 0, .int 0, .ref (ma 10), .ref (ma 11), .ref (ma 12), .int 0, .int 0])), (ma 1, .inl (kc 0, 2880, .inl at0))] sz)) 0 0 (va_A [(ma 0, .inr (11, [.ref (ma 1), .ref (ma 2), .int 0, .long 0, .long 1, .ref (ma 3), .ref (ma 4), .ref (ma 5), .ref (ma 6), .ref (ma 7), .int 0, .int 0, .int 0, .int 0, .int 0, .int 0, .int (-1), .int (-1), .int 0, .int 0, .int 0, .ref (ma 8), .int 0, .int 0, .int (-1), .int 0, .int 0, .int 0, .ref (ma 9), .int 0, .int 0, .ref (ma 10), .ref (ma 11), .ref (ma 12), .int 0, .int 0])), (ma 1, .inl (kc 0, 2880, .inl at0))] sz) := by
  refine Met.ofW (cc := cX12_quiet) (maxL := 5) (ret := (some .int)) (by decide) rfl ?_
  intro p e s m args below meth c s₁ B hml hv
  obtain ⟨rfl, hsz, hP, hE, hD0⟩ := hv
  have hx := B.exec
  have hb := B.bytes
  have hr := B.returns
  have hts := atoms_spec (ws := vq_quiet) B.pre
  have hown : s.vm.findClass RX12 = some m.cls := findClass_of_methodNamed B.named
  have hlocks := B.notSynchronized
  subst hsz
  have hD := hD0.self (sz := s.heap.size)
  generalize hAe : va_A [(ma 0, .inr (11, [.ref (ma 1), .ref (ma 2), .int 0, .long 0, .long 1, .ref (ma 3), .ref (ma 4), .ref (ma 5), .ref (ma 6), .ref (ma 7), .int 0, .int 0, .int 0, .int 0, .int 0, .int 0, .int (-1), .int (-1), .int 0, .int 0, .int 0, .ref (ma 8), .int 0, .int 0, .int (-1), .int 0, .int 0, .int 0, .ref (ma 9), .int 0, .int 0, .ref (ma 10), .ref (ma 11), .ref (ma 12), .int 0, .int 0])), (ma 1, .inl (kc 0, 2880, .inl at0))] s.heap.size = A at hD ⊢
  have hA : ∀ q : Nat, s.heap.size ≤ q → A q := fun q h => by rw [← hAe]; exact Or.inr h
  have hS : va_S A s.heap s.heap [] := va_S.rf
  have hK := hE.1
  have hP : va_P D vwCl [(ma 0, .inr (11, [.ref (ma 1), .ref (ma 2), .int 0, .long 0, .long 1, .ref (ma 3), .ref (ma 4), .ref (ma 5), .ref (ma 6), .ref (ma 7), .int 0, .int 0, .int 0, .int 0, .int 0, .int 0, .int (-1), .int (-1), .int 0, .int 0, .int 0, .ref (ma 8), .int 0, .int 0, .int (-1), .int 0, .int 0, .int 0, .ref (ma 9), .int 0, .int 0, .ref (ma 10), .ref (ma 11), .ref (ma 12), .int 0, .int 0])), (ma 1, .inl (kc 0, 2880, .inl at0))] s.heap := hP
  have hl := lv_entry ([.ref (ma 0), .int a0, .int a1, .int a2]) (n := 5) (Nat.le_of_ble_eq_true rfl)
  rw [lg_entry_eq]
  generalize (lg_sl ([.ref (ma 0), .int a0, .int a1, .int a2]) ++ List.replicate (5 - (lg_sl ([.ref (ma 0), .int a0, .int a1, .int a2])).length) Slot.unset).toArray = ls at hl ⊢
  have hl : lv_has ls 5 [(0, .ref (ma 0)), (1, .int a0), (2, .int a1), (3, .int a2)] := hl
  refine lv_iload_n hx hb dX12_quiet_0 rfl (lv_at hl 2 rfl) ?_
  refine lv_i2l (v := (a1.toInt64)) hx hb dX12_quiet_1 rfl ?_
  refine lv_lconst (v := 0) hx hb dX12_quiet_2 (by decide) ?_
  refine lv_ldc2 (v := 999) hx hb hown (hts (.constantLong RX12 296 (999)) (List.mem_of_getElem? (i := 1) rfl)) dX12_quiet_3 ?_
  have hPc := hP.sub (ws' := []) [] rfl
  have hDc := hD.sub (ws' := []) [] (by decide) rfl
  have hFc := va_free (wc := []) hD hS hA [] rfl
  refine va_calli (va_runS (As := [.long (a1.toInt64), .long 0, .long 999]) (rest := []) ⟨hx, hb, hml, hown, hts⟩ (m_isFrom l D kc s.heap.size (a1.toInt64) 0 999) (va_cwS 3 hts gq_quiet_298_m_isFrom rfl rfl rfl (by decide +kernel) ⟨Nat.le_of_ble_eq_true rfl, Nat.le_of_ble_eq_true rfl⟩) (preS_ok hPc hDc hE) rfl rfl hl.1 rfl (lv_room (Nat.le_of_ble_eq_true rfl)) dX12_quiet_6 ⟨Nat.le_of_ble_eq_true rfl, Nat.le_of_ble_eq_true rfl⟩) hS (fun q _ h => hFc q h) hFc (fun r_6 u9 t9 H locs ht hvm hw hB hz1 hk1 hS => ?_)
  obtain ⟨hP1, hD1⟩ := hB
  rw [ht] at hP1
  obtain ⟨hP, hD⟩ := va_join (wr := [(ma 0, .inr (11, [.ref (ma 1), .ref (ma 2), .int 0, .long 0, .long 1, .ref (ma 3), .ref (ma 4), .ref (ma 5), .ref (ma 6), .ref (ma 7), .int 0, .int 0, .int 0, .int 0, .int 0, .int 0, .int (-1), .int (-1), .int 0, .int 0, .int 0, .ref (ma 8), .int 0, .int 0, .int (-1), .int 0, .int 0, .int 0, .ref (ma 9), .int 0, .int 0, .ref (ma 10), .ref (ma 11), .ref (ma 12), .int 0, .int 0])), (ma 1, .inl (kc 0, 2880, .inl at0))]) (w1 := []) hP hD [] [0, 1] rfl rfl (by decide) (by decide) hk1 hFc hP1 hD1
  have hP : va_P D vwCl [(ma 0, .inr (11, [.ref (ma 1), .ref (ma 2), .int 0, .long 0, .long 1, .ref (ma 3), .ref (ma 4), .ref (ma 5), .ref (ma 6), .ref (ma 7), .int 0, .int 0, .int 0, .int 0, .int 0, .int 0, .int (-1), .int (-1), .int 0, .int 0, .int 0, .ref (ma 8), .int 0, .int 0, .int (-1), .int 0, .int 0, .int 0, .ref (ma 9), .int 0, .int 0, .ref (ma 10), .ref (ma 11), .ref (ma 12), .int 0, .int 0])), (ma 1, .inl (kc 0, 2880, .inl at0))] H := hP
  have hD : va_D A [(ma 0, .inr (11, [.ref (ma 1), .ref (ma 2), .int 0, .long 0, .long 1, .ref (ma 3), .ref (ma 4), .ref (ma 5), .ref (ma 6), .ref (ma 7), .int 0, .int 0, .int 0, .int 0, .int 0, .int 0, .int (-1), .int (-1), .int 0, .int 0, .int 0, .ref (ma 8), .int 0, .int 0, .int (-1), .int 0, .int 0, .int 0, .ref (ma 9), .int 0, .int 0, .ref (ma 10), .ref (ma 11), .ref (ma 12), .int 0, .int 0])), (ma 1, .inl (kc 0, 2880, .inl at0))] := hD
  subst hw
  refine lv_if_eq (tgt := 24) hx hb dX12_quiet_9 (by decide) (fun c_9 => ?_) (fun c_9 => ?_)
  · refine lv_iconst (v := 1) hx hb dX12_quiet_24 (by decide) ?_
    refine lv_goto (tgt := 33) hx hb dX12_quiet_25 (by decide) ?_
    refine lv_istore (lv' := [(4, .int 1), (0, .ref (ma 0)), (1, .int a0), (2, .int a1), (3, .int a2)]) hx hb dX12_quiet_33 hl (by decide) rfl (fun ls hl => ?_)
    refine lv_iload hx hb dX12_quiet_35 (lv_at hl 0 rfl) ?_
    refine lv_if_le (tgt := 49) hx hb dX12_quiet_37 (by decide) (fun h => absurd h (by decide)) (fun _ => ?_)
    refine lv_aload_n hx hb dX12_quiet_40 rfl (lv_at hl 1 rfl) ?_
    refine lv_iload hx hb dX12_quiet_41 (lv_at hl 0 rfl) ?_
    have hPc := hP.sub (ws' := [(ma 0, .inr (11, [.ref (ma 1), .ref (ma 2), .int 0, .long 0, .long 1, .ref (ma 3), .ref (ma 4), .ref (ma 5), .ref (ma 6), .ref (ma 7), .int 0, .int 0, .int 0, .int 0, .int 0, .int 0, .int (-1), .int (-1), .int 0, .int 0, .int 0, .ref (ma 8), .int 0, .int 0, .int (-1), .int 0, .int 0, .int 0, .ref (ma 9), .int 0, .int 0, .ref (ma 10), .ref (ma 11), .ref (ma 12), .int 0, .int 0]))]) [0] rfl
    have hDc := hD.sub (ws' := [(ma 0, .inr (11, [.ref (ma 1), .ref (ma 2), .int 0, .long 0, .long 1, .ref (ma 3), .ref (ma 4), .ref (ma 5), .ref (ma 6), .ref (ma 7), .int 0, .int 0, .int 0, .int 0, .int 0, .int 0, .int (-1), .int (-1), .int 0, .int 0, .int 0, .ref (ma 8), .int 0, .int 0, .int (-1), .int 0, .int 0, .int 0, .ref (ma 9), .int 0, .int 0, .ref (ma 10), .ref (ma 11), .ref (ma 12), .int 0, .int 0]))]) [0] (by decide) rfl
    have hFc := va_free (wc := [(ma 0, .inr (11, [.ref (ma 1), .ref (ma 2), .int 0, .long 0, .long 1, .ref (ma 3), .ref (ma 4), .ref (ma 5), .ref (ma 6), .ref (ma 7), .int 0, .int 0, .int 0, .int 0, .int 0, .int 0, .int (-1), .int (-1), .int 0, .int 0, .int 0, .ref (ma 8), .int 0, .int 0, .int (-1), .int 0, .int 0, .int 0, .ref (ma 9), .int 0, .int 0, .ref (ma 10), .ref (ma 11), .ref (ma 12), .int 0, .int 0]))]) hD hS hA [0] rfl
    refine va_calli (va_runV (As := [.int 1]) (rest := []) ⟨hx, hb, hml, hown, hts⟩ (m_refuse l D kc H.size ma 0 0 1 0 0 0 0 0 0 (-1) (-1) 0 0 0 0 0 (-1) 0 0 0 0 0 0 0 1) (cwV 1 hts gq_quiet_72_m_refuse rfl rfl rfl (by decide +kernel) ⟨Nat.le_of_ble_eq_true rfl, Nat.le_of_ble_eq_true rfl⟩) (preV_ok hPc hDc hE (ci := 11) (q0 := 0) rfl rfl) rfl rfl hl.1 rfl (lv_room (Nat.le_of_ble_eq_true rfl)) dX12_quiet_43 ⟨Nat.le_of_ble_eq_true rfl, Nat.le_of_ble_eq_true rfl⟩) hS (fun q _ h => hFc q h) hFc (fun r_43_1 u9 t9 H locs ht hvm hw hB hz1 hk1 hS => ?_)
    obtain ⟨hP1, hD1⟩ := hB
    rw [ht] at hP1
    obtain ⟨hP, hD⟩ := va_join (wr := [(ma 1, .inl (kc 0, 2880, .inl at0))]) (w1 := [(ma 0, .inr (11, [.ref (ma 1), .ref (ma 2), .int 1, .long 0, .long 1, .ref (ma 3), .ref (ma 4), .ref (ma 5), .ref (ma 6), .ref (ma 7), .int 0, .int 0, .int 0, .int 0, .int 0, .int 0, .int (-1), .int (-1), .int 0, .int 0, .int 0, .ref (ma 8), .int 0, .int 0, .int (-1), .int 0, .int 0, .int 0, .ref (ma 9), .int 0, .int 0, .ref (ma 10), .ref (ma 11), .ref (ma 12), .int 0, .int 0]))]) hP hD [0] [1] rfl rfl (by decide) (by decide) hk1 hFc hP1 hD1
    have hP : va_P D vwCl [(ma 1, .inl (kc 0, 2880, .inl at0)), (ma 0, .inr (11, [.ref (ma 1), .ref (ma 2), .int 1, .long 0, .long 1, .ref (ma 3), .ref (ma 4), .ref (ma 5), .ref (ma 6), .ref (ma 7), .int 0, .int 0, .int 0, .int 0, .int 0, .int 0, .int (-1), .int (-1), .int 0, .int 0, .int 0, .ref (ma 8), .int 0, .int 0, .int (-1), .int 0, .int 0, .int 0, .ref (ma 9), .int 0, .int 0, .ref (ma 10), .ref (ma 11), .ref (ma 12), .int 0, .int 0]))] H := hP
    have hD : va_D A [(ma 1, .inl (kc 0, 2880, .inl at0)), (ma 0, .inr (11, [.ref (ma 1), .ref (ma 2), .int 1, .long 0, .long 1, .ref (ma 3), .ref (ma 4), .ref (ma 5), .ref (ma 6), .ref (ma 7), .int 0, .int 0, .int 0, .int 0, .int 0, .int 0, .int (-1), .int (-1), .int 0, .int 0, .int 0, .ref (ma 8), .int 0, .int 0, .int (-1), .int 0, .int 0, .int 0, .ref (ma 9), .int 0, .int 0, .ref (ma 10), .ref (ma 11), .ref (ma 12), .int 0, .int 0]))] := hD
    subst hw
    refine lv_goto (tgt := 78) hx hb dX12_quiet_46 (by decide) ?_
    exact W.iret (v := (-1)) hx hb hr (fun t9 ht hW => ⟨⟨(-1), (), rfl, rfl, trivial⟩, hS.F ht⟩) hS.2.2 dX12_quiet_78
  · refine lv_iload_n hx hb dX12_quiet_12 rfl (lv_at hl 3 rfl) ?_
    refine lv_i2l (v := (a2.toInt64)) hx hb dX12_quiet_13 rfl ?_
    refine lv_lconst (v := 0) hx hb dX12_quiet_14 (by decide) ?_
    refine lv_ldc2 (v := 9) hx hb hown (hts (.constantLong RX12 379 (9)) (List.mem_of_getElem? (i := 11) rfl)) dX12_quiet_15 ?_
    have hPc := hP.sub (ws' := []) [] rfl
    have hDc := hD.sub (ws' := []) [] (by decide) rfl
    have hFc := va_free (wc := []) hD hS hA [] rfl
    refine va_calli (va_runS (As := [.long (a2.toInt64), .long 0, .long 9]) (rest := []) ⟨hx, hb, hml, hown, hts⟩ (m_isFrom l D kc H.size (a2.toInt64) 0 9) (va_cwS 3 hts gq_quiet_298_m_isFrom rfl rfl rfl (by decide +kernel) ⟨Nat.le_of_ble_eq_true rfl, Nat.le_of_ble_eq_true rfl⟩) (preS_ok hPc hDc hE) rfl rfl hl.1 rfl (lv_room (Nat.le_of_ble_eq_true rfl)) dX12_quiet_18 ⟨Nat.le_of_ble_eq_true rfl, Nat.le_of_ble_eq_true rfl⟩) hS (fun q _ h => hFc q h) hFc (fun r_18_1 u9 t9 H locs ht hvm hw hB hz1 hk1 hS => ?_)
    obtain ⟨hP1, hD1⟩ := hB
    rw [ht] at hP1
    obtain ⟨hP, hD⟩ := va_join (wr := [(ma 0, .inr (11, [.ref (ma 1), .ref (ma 2), .int 0, .long 0, .long 1, .ref (ma 3), .ref (ma 4), .ref (ma 5), .ref (ma 6), .ref (ma 7), .int 0, .int 0, .int 0, .int 0, .int 0, .int 0, .int (-1), .int (-1), .int 0, .int 0, .int 0, .ref (ma 8), .int 0, .int 0, .int (-1), .int 0, .int 0, .int 0, .ref (ma 9), .int 0, .int 0, .ref (ma 10), .ref (ma 11), .ref (ma 12), .int 0, .int 0])), (ma 1, .inl (kc 0, 2880, .inl at0))]) (w1 := []) hP hD [] [0, 1] rfl rfl (by decide) (by decide) hk1 hFc hP1 hD1
    have hP : va_P D vwCl [(ma 0, .inr (11, [.ref (ma 1), .ref (ma 2), .int 0, .long 0, .long 1, .ref (ma 3), .ref (ma 4), .ref (ma 5), .ref (ma 6), .ref (ma 7), .int 0, .int 0, .int 0, .int 0, .int 0, .int 0, .int (-1), .int (-1), .int 0, .int 0, .int 0, .ref (ma 8), .int 0, .int 0, .int (-1), .int 0, .int 0, .int 0, .ref (ma 9), .int 0, .int 0, .ref (ma 10), .ref (ma 11), .ref (ma 12), .int 0, .int 0])), (ma 1, .inl (kc 0, 2880, .inl at0))] H := hP
    have hD : va_D A [(ma 0, .inr (11, [.ref (ma 1), .ref (ma 2), .int 0, .long 0, .long 1, .ref (ma 3), .ref (ma 4), .ref (ma 5), .ref (ma 6), .ref (ma 7), .int 0, .int 0, .int 0, .int 0, .int 0, .int 0, .int (-1), .int (-1), .int 0, .int 0, .int 0, .ref (ma 8), .int 0, .int 0, .int (-1), .int 0, .int 0, .int 0, .ref (ma 9), .int 0, .int 0, .ref (ma 10), .ref (ma 11), .ref (ma 12), .int 0, .int 0])), (ma 1, .inl (kc 0, 2880, .inl at0))] := hD
    subst hw
    refine lv_if_ne (tgt := 28) hx hb dX12_quiet_21 (by decide) (fun c_21 => ?_) (fun c_21 => ?_)
    · refine lv_aload_n hx hb dX12_quiet_28 rfl (lv_at hl 0 rfl) ?_
      refine lv_iload_n hx hb dX12_quiet_29 rfl (lv_at hl 1 rfl) ?_
      have hPc := hP.sub (ws' := [(ma 0, .inr (11, [.ref (ma 1), .ref (ma 2), .int 0, .long 0, .long 1, .ref (ma 3), .ref (ma 4), .ref (ma 5), .ref (ma 6), .ref (ma 7), .int 0, .int 0, .int 0, .int 0, .int 0, .int 0, .int (-1), .int (-1), .int 0, .int 0, .int 0, .ref (ma 8), .int 0, .int 0, .int (-1), .int 0, .int 0, .int 0, .ref (ma 9), .int 0, .int 0, .ref (ma 10), .ref (ma 11), .ref (ma 12), .int 0, .int 0])), (ma 1, .inl (kc 0, 2880, .inl at0))]) [0, 1] rfl
      have hDc := hD.sub (ws' := [(ma 0, .inr (11, [.ref (ma 1), .ref (ma 2), .int 0, .long 0, .long 1, .ref (ma 3), .ref (ma 4), .ref (ma 5), .ref (ma 6), .ref (ma 7), .int 0, .int 0, .int 0, .int 0, .int 0, .int 0, .int (-1), .int (-1), .int 0, .int 0, .int 0, .ref (ma 8), .int 0, .int 0, .int (-1), .int 0, .int 0, .int 0, .ref (ma 9), .int 0, .int 0, .ref (ma 10), .ref (ma 11), .ref (ma 12), .int 0, .int 0])), (ma 1, .inl (kc 0, 2880, .inl at0))]) [0, 1] (by decide) rfl
      have hFc := va_free (wc := [(ma 0, .inr (11, [.ref (ma 1), .ref (ma 2), .int 0, .long 0, .long 1, .ref (ma 3), .ref (ma 4), .ref (ma 5), .ref (ma 6), .ref (ma 7), .int 0, .int 0, .int 0, .int 0, .int 0, .int 0, .int (-1), .int (-1), .int 0, .int 0, .int 0, .ref (ma 8), .int 0, .int 0, .int (-1), .int 0, .int 0, .int 0, .ref (ma 9), .int 0, .int 0, .ref (ma 10), .ref (ma 11), .ref (ma 12), .int 0, .int 0])), (ma 1, .inl (kc 0, 2880, .inl at0))]) hD hS hA [0, 1] rfl
      refine va_calli (va_runV (As := [.int a0]) (rest := []) ⟨hx, hb, hml, hown, hts⟩ (m_wrongStep l D kc H.size ma a0) (cwV 1 hts gq_quiet_263_m_wrongStep rfl rfl rfl (by decide +kernel) ⟨Nat.le_of_ble_eq_true rfl, Nat.le_of_ble_eq_true rfl⟩) (preV_ok hPc hDc hE (ci := 11) (q0 := 0) rfl rfl) rfl rfl hl.1 rfl (lv_room (Nat.le_of_ble_eq_true rfl)) dX12_quiet_30 ⟨Nat.le_of_ble_eq_true rfl, Nat.le_of_ble_eq_true rfl⟩) hS (fun q _ h => hFc q h) hFc (fun r_30_2 u9 t9 H locs ht hvm hw hB hz1 hk1 hS => ?_)
      obtain ⟨hP1, hD1⟩ := hB
      rw [ht] at hP1
      obtain ⟨hP, hD⟩ := va_join (wr := []) (w1 := [(ma 0, .inr (11, [.ref (ma 1), .ref (ma 2), .int 0, .long 0, .long 1, .ref (ma 3), .ref (ma 4), .ref (ma 5), .ref (ma 6), .ref (ma 7), .int 0, .int 0, .int 0, .int 0, .int 0, .int 0, .int (-1), .int (-1), .int 0, .int 0, .int 0, .ref (ma 8), .int 0, .int 0, .int (-1), .int 0, .int 0, .int 0, .ref (ma 9), .int 0, .int 0, .ref (ma 10), .ref (ma 11), .ref (ma 12), .int 0, .int 0])), (ma 1, .inl (kc 0, 2880, .inl at0))]) hP hD [0, 1] [] rfl rfl (by decide) (by decide) hk1 hFc hP1 hD1
      have hP : va_P D vwCl [(ma 0, .inr (11, [.ref (ma 1), .ref (ma 2), .int 0, .long 0, .long 1, .ref (ma 3), .ref (ma 4), .ref (ma 5), .ref (ma 6), .ref (ma 7), .int 0, .int 0, .int 0, .int 0, .int 0, .int 0, .int (-1), .int (-1), .int 0, .int 0, .int 0, .ref (ma 8), .int 0, .int 0, .int (-1), .int 0, .int 0, .int 0, .ref (ma 9), .int 0, .int 0, .ref (ma 10), .ref (ma 11), .ref (ma 12), .int 0, .int 0])), (ma 1, .inl (kc 0, 2880, .inl at0))] H := hP
      have hD : va_D A [(ma 0, .inr (11, [.ref (ma 1), .ref (ma 2), .int 0, .long 0, .long 1, .ref (ma 3), .ref (ma 4), .ref (ma 5), .ref (ma 6), .ref (ma 7), .int 0, .int 0, .int 0, .int 0, .int 0, .int 0, .int (-1), .int (-1), .int 0, .int 0, .int 0, .ref (ma 8), .int 0, .int 0, .int (-1), .int 0, .int 0, .int 0, .ref (ma 9), .int 0, .int 0, .ref (ma 10), .ref (ma 11), .ref (ma 12), .int 0, .int 0])), (ma 1, .inl (kc 0, 2880, .inl at0))] := hD
      subst hw
      refine lv_istore (lv' := [(4, .int 1), (0, .ref (ma 0)), (1, .int a0), (2, .int a1), (3, .int a2)]) hx hb dX12_quiet_33 hl (by decide) rfl (fun ls hl => ?_)
      refine lv_iload hx hb dX12_quiet_35 (lv_at hl 0 rfl) ?_
      refine lv_if_le (tgt := 49) hx hb dX12_quiet_37 (by decide) (fun h => absurd h (by decide)) (fun _ => ?_)
      refine lv_aload_n hx hb dX12_quiet_40 rfl (lv_at hl 1 rfl) ?_
      refine lv_iload hx hb dX12_quiet_41 (lv_at hl 0 rfl) ?_
      have hPc := hP.sub (ws' := [(ma 0, .inr (11, [.ref (ma 1), .ref (ma 2), .int 0, .long 0, .long 1, .ref (ma 3), .ref (ma 4), .ref (ma 5), .ref (ma 6), .ref (ma 7), .int 0, .int 0, .int 0, .int 0, .int 0, .int 0, .int (-1), .int (-1), .int 0, .int 0, .int 0, .ref (ma 8), .int 0, .int 0, .int (-1), .int 0, .int 0, .int 0, .ref (ma 9), .int 0, .int 0, .ref (ma 10), .ref (ma 11), .ref (ma 12), .int 0, .int 0]))]) [0] rfl
      have hDc := hD.sub (ws' := [(ma 0, .inr (11, [.ref (ma 1), .ref (ma 2), .int 0, .long 0, .long 1, .ref (ma 3), .ref (ma 4), .ref (ma 5), .ref (ma 6), .ref (ma 7), .int 0, .int 0, .int 0, .int 0, .int 0, .int 0, .int (-1), .int (-1), .int 0, .int 0, .int 0, .ref (ma 8), .int 0, .int 0, .int (-1), .int 0, .int 0, .int 0, .ref (ma 9), .int 0, .int 0, .ref (ma 10), .ref (ma 11), .ref (ma 12), .int 0, .int 0]))]) [0] (by decide) rfl
      have hFc := va_free (wc := [(ma 0, .inr (11, [.ref (ma 1), .ref (ma 2), .int 0, .long 0, .long 1, .ref (ma 3), .ref (ma 4), .ref (ma 5), .ref (ma 6), .ref (ma 7), .int 0, .int 0, .int 0, .int 0, .int 0, .int 0, .int (-1), .int (-1), .int 0, .int 0, .int 0, .ref (ma 8), .int 0, .int 0, .int (-1), .int 0, .int 0, .int 0, .ref (ma 9), .int 0, .int 0, .ref (ma 10), .ref (ma 11), .ref (ma 12), .int 0, .int 0]))]) hD hS hA [0] rfl
      refine va_calli (va_runV (As := [.int 1]) (rest := []) ⟨hx, hb, hml, hown, hts⟩ (m_refuse l D kc H.size ma 0 0 1 0 0 0 0 0 0 (-1) (-1) 0 0 0 0 0 (-1) 0 0 0 0 0 0 0 1) (cwV 1 hts gq_quiet_72_m_refuse rfl rfl rfl (by decide +kernel) ⟨Nat.le_of_ble_eq_true rfl, Nat.le_of_ble_eq_true rfl⟩) (preV_ok hPc hDc hE (ci := 11) (q0 := 0) rfl rfl) rfl rfl hl.1 rfl (lv_room (Nat.le_of_ble_eq_true rfl)) dX12_quiet_43 ⟨Nat.le_of_ble_eq_true rfl, Nat.le_of_ble_eq_true rfl⟩) hS (fun q _ h => hFc q h) hFc (fun r_43_2 u9 t9 H locs ht hvm hw hB hz1 hk1 hS => ?_)
      obtain ⟨hP1, hD1⟩ := hB
      rw [ht] at hP1
      obtain ⟨hP, hD⟩ := va_join (wr := [(ma 1, .inl (kc 0, 2880, .inl at0))]) (w1 := [(ma 0, .inr (11, [.ref (ma 1), .ref (ma 2), .int 1, .long 0, .long 1, .ref (ma 3), .ref (ma 4), .ref (ma 5), .ref (ma 6), .ref (ma 7), .int 0, .int 0, .int 0, .int 0, .int 0, .int 0, .int (-1), .int (-1), .int 0, .int 0, .int 0, .ref (ma 8), .int 0, .int 0, .int (-1), .int 0, .int 0, .int 0, .ref (ma 9), .int 0, .int 0, .ref (ma 10), .ref (ma 11), .ref (ma 12), .int 0, .int 0]))]) hP hD [0] [1] rfl rfl (by decide) (by decide) hk1 hFc hP1 hD1
      have hP : va_P D vwCl [(ma 1, .inl (kc 0, 2880, .inl at0)), (ma 0, .inr (11, [.ref (ma 1), .ref (ma 2), .int 1, .long 0, .long 1, .ref (ma 3), .ref (ma 4), .ref (ma 5), .ref (ma 6), .ref (ma 7), .int 0, .int 0, .int 0, .int 0, .int 0, .int 0, .int (-1), .int (-1), .int 0, .int 0, .int 0, .ref (ma 8), .int 0, .int 0, .int (-1), .int 0, .int 0, .int 0, .ref (ma 9), .int 0, .int 0, .ref (ma 10), .ref (ma 11), .ref (ma 12), .int 0, .int 0]))] H := hP
      have hD : va_D A [(ma 1, .inl (kc 0, 2880, .inl at0)), (ma 0, .inr (11, [.ref (ma 1), .ref (ma 2), .int 1, .long 0, .long 1, .ref (ma 3), .ref (ma 4), .ref (ma 5), .ref (ma 6), .ref (ma 7), .int 0, .int 0, .int 0, .int 0, .int 0, .int 0, .int (-1), .int (-1), .int 0, .int 0, .int 0, .ref (ma 8), .int 0, .int 0, .int (-1), .int 0, .int 0, .int 0, .ref (ma 9), .int 0, .int 0, .ref (ma 10), .ref (ma 11), .ref (ma 12), .int 0, .int 0]))] := hD
      subst hw
      refine lv_goto (tgt := 78) hx hb dX12_quiet_46 (by decide) ?_
      exact W.iret (v := (-1)) hx hb hr (fun t9 ht hW => ⟨⟨(-1), (), rfl, rfl, trivial⟩, hS.F ht⟩) hS.2.2 dX12_quiet_78
    · refine lv_iconst (v := 1) hx hb dX12_quiet_24 (by decide) ?_
      refine lv_goto (tgt := 33) hx hb dX12_quiet_25 (by decide) ?_
      refine lv_istore (lv' := [(4, .int 1), (0, .ref (ma 0)), (1, .int a0), (2, .int a1), (3, .int a2)]) hx hb dX12_quiet_33 hl (by decide) rfl (fun ls hl => ?_)
      refine lv_iload hx hb dX12_quiet_35 (lv_at hl 0 rfl) ?_
      refine lv_if_le (tgt := 49) hx hb dX12_quiet_37 (by decide) (fun h => absurd h (by decide)) (fun _ => ?_)
      refine lv_aload_n hx hb dX12_quiet_40 rfl (lv_at hl 1 rfl) ?_
      refine lv_iload hx hb dX12_quiet_41 (lv_at hl 0 rfl) ?_
      have hPc := hP.sub (ws' := [(ma 0, .inr (11, [.ref (ma 1), .ref (ma 2), .int 0, .long 0, .long 1, .ref (ma 3), .ref (ma 4), .ref (ma 5), .ref (ma 6), .ref (ma 7), .int 0, .int 0, .int 0, .int 0, .int 0, .int 0, .int (-1), .int (-1), .int 0, .int 0, .int 0, .ref (ma 8), .int 0, .int 0, .int (-1), .int 0, .int 0, .int 0, .ref (ma 9), .int 0, .int 0, .ref (ma 10), .ref (ma 11), .ref (ma 12), .int 0, .int 0]))]) [0] rfl
      have hDc := hD.sub (ws' := [(ma 0, .inr (11, [.ref (ma 1), .ref (ma 2), .int 0, .long 0, .long 1, .ref (ma 3), .ref (ma 4), .ref (ma 5), .ref (ma 6), .ref (ma 7), .int 0, .int 0, .int 0, .int 0, .int 0, .int 0, .int (-1), .int (-1), .int 0, .int 0, .int 0, .ref (ma 8), .int 0, .int 0, .int (-1), .int 0, .int 0, .int 0, .ref (ma 9), .int 0, .int 0, .ref (ma 10), .ref (ma 11), .ref (ma 12), .int 0, .int 0]))]) [0] (by decide) rfl
      have hFc := va_free (wc := [(ma 0, .inr (11, [.ref (ma 1), .ref (ma 2), .int 0, .long 0, .long 1, .ref (ma 3), .ref (ma 4), .ref (ma 5), .ref (ma 6), .ref (ma 7), .int 0, .int 0, .int 0, .int 0, .int 0, .int 0, .int (-1), .int (-1), .int 0, .int 0, .int 0, .ref (ma 8), .int 0, .int 0, .int (-1), .int 0, .int 0, .int 0, .ref (ma 9), .int 0, .int 0, .ref (ma 10), .ref (ma 11), .ref (ma 12), .int 0, .int 0]))]) hD hS hA [0] rfl
      refine va_calli (va_runV (As := [.int 1]) (rest := []) ⟨hx, hb, hml, hown, hts⟩ (m_refuse l D kc H.size ma 0 0 1 0 0 0 0 0 0 (-1) (-1) 0 0 0 0 0 (-1) 0 0 0 0 0 0 0 1) (cwV 1 hts gq_quiet_72_m_refuse rfl rfl rfl (by decide +kernel) ⟨Nat.le_of_ble_eq_true rfl, Nat.le_of_ble_eq_true rfl⟩) (preV_ok hPc hDc hE (ci := 11) (q0 := 0) rfl rfl) rfl rfl hl.1 rfl (lv_room (Nat.le_of_ble_eq_true rfl)) dX12_quiet_43 ⟨Nat.le_of_ble_eq_true rfl, Nat.le_of_ble_eq_true rfl⟩) hS (fun q _ h => hFc q h) hFc (fun r_43_2 u9 t9 H locs ht hvm hw hB hz1 hk1 hS => ?_)
      obtain ⟨hP1, hD1⟩ := hB
      rw [ht] at hP1
      obtain ⟨hP, hD⟩ := va_join (wr := [(ma 1, .inl (kc 0, 2880, .inl at0))]) (w1 := [(ma 0, .inr (11, [.ref (ma 1), .ref (ma 2), .int 1, .long 0, .long 1, .ref (ma 3), .ref (ma 4), .ref (ma 5), .ref (ma 6), .ref (ma 7), .int 0, .int 0, .int 0, .int 0, .int 0, .int 0, .int (-1), .int (-1), .int 0, .int 0, .int 0, .ref (ma 8), .int 0, .int 0, .int (-1), .int 0, .int 0, .int 0, .ref (ma 9), .int 0, .int 0, .ref (ma 10), .ref (ma 11), .ref (ma 12), .int 0, .int 0]))]) hP hD [0] [1] rfl rfl (by decide) (by decide) hk1 hFc hP1 hD1
      have hP : va_P D vwCl [(ma 1, .inl (kc 0, 2880, .inl at0)), (ma 0, .inr (11, [.ref (ma 1), .ref (ma 2), .int 1, .long 0, .long 1, .ref (ma 3), .ref (ma 4), .ref (ma 5), .ref (ma 6), .ref (ma 7), .int 0, .int 0, .int 0, .int 0, .int 0, .int 0, .int (-1), .int (-1), .int 0, .int 0, .int 0, .ref (ma 8), .int 0, .int 0, .int (-1), .int 0, .int 0, .int 0, .ref (ma 9), .int 0, .int 0, .ref (ma 10), .ref (ma 11), .ref (ma 12), .int 0, .int 0]))] H := hP
      have hD : va_D A [(ma 1, .inl (kc 0, 2880, .inl at0)), (ma 0, .inr (11, [.ref (ma 1), .ref (ma 2), .int 1, .long 0, .long 1, .ref (ma 3), .ref (ma 4), .ref (ma 5), .ref (ma 6), .ref (ma 7), .int 0, .int 0, .int 0, .int 0, .int 0, .int 0, .int (-1), .int (-1), .int 0, .int 0, .int 0, .ref (ma 8), .int 0, .int 0, .int (-1), .int 0, .int 0, .int 0, .ref (ma 9), .int 0, .int 0, .ref (ma 10), .ref (ma 11), .ref (ma 12), .int 0, .int 0]))] := hD
      subst hw
      refine lv_goto (tgt := 78) hx hb dX12_quiet_46 (by decide) ?_
      exact W.iret (v := (-1)) hx hb hr (fun t9 ht hW => ⟨⟨(-1), (), rfl, rfl, trivial⟩, hS.F ht⟩) hS.2.2 dX12_quiet_78
theorem dX12_grocer_0 : decode cX12_grocer 0 = .ok (.iload_n 1, 1) := by decide +kernel
theorem dX12_grocer_1 : decode cX12_grocer 1 = .ok (.ifCond .lt 42, 3) := by decide +kernel
theorem dX12_grocer_43 : decode cX12_grocer 43 = .ok (.aload_n 0, 1) := by decide +kernel
theorem dX12_grocer_44 : decode cX12_grocer 44 = .ok (.iconst 1, 1) := by decide +kernel
theorem dX12_grocer_45 : decode cX12_grocer 45 = .ok (.invokevirtual 72, 3) := by decide +kernel
theorem dX12_grocer_48 : decode cX12_grocer 48 = .ok (.ireturn, 1) := by decide +kernel
theorem dX12_grocer_4 : decode cX12_grocer 4 = .ok (.iload_n 1, 1) := by decide +kernel
theorem dX12_grocer_5 : decode cX12_grocer 5 = .ok (.aload_n 0, 1) := by decide +kernel
theorem dX12_grocer_6 : decode cX12_grocer 6 = .ok (.getfield 7, 3) := by decide +kernel
theorem dX12_grocer_9 : decode cX12_grocer 9 = .ok (.iconst 3, 1) := by decide +kernel
theorem dX12_grocer_10 : decode cX12_grocer 10 = .ok (.iaload, 1) := by decide +kernel
theorem dX12_grocer_11 : decode cX12_grocer 11 = .ok (.if_icmp .ge 32, 3) := by decide +kernel
def vdq_grocer : List Cond := [.code yX12_grocer cX12_grocer 3 (some .int), .methodLink RX12 72 yX12_refuse, .code yX12_refuse cX12_refuse 2 (some .int), .fieldLink RX12 66 "SaltStreetModel" "status" "I", .instanceMethod yX12_refuse, .selects RX12 yX12_refuse yX12_refuse, .initialized RX12, .fieldLink RX12 7 "SaltStreetModel" "at" "[I"]
def vq_grocer : List Cond := vdq_grocer ++ (wsX120 ++ ([] : List Cond))
theorem iq_grocer_X12 : ∀ w ∈ wsX120, w ∈ vq_grocer := fun _ h => List.mem_append_right _ (List.mem_append_left _ h)
set_option maxRecDepth 20000 in
theorem gq_grocer_72_m_refuse : GoodIn vq_grocer (wsV RX12 72 RX12 yX12_refuse vm_refuse) := (goodIn_app (goodIn_r _ [1, 4, 5, 6] rfl (by decide +kernel)) (goodIn_app (goodIn_r vdm_refuse [2, 3] rfl (by decide +kernel)) (goodIn_app (goodIn_sub iq_grocer_X12 gdX12) goodIn_nil)))
set_option maxHeartbeats 4000000 in
set_option maxRecDepth 100000 in
theorem q_grocer (l : Launch) (D : va_G) (kc : Nat → ClassId) (sz : Nat) (ma : Nat → Nat) (a0 : Int32) (a1 : Int32) : Met l yX12_grocer vq_grocer ({ frames := 1, cells := 0, slots := 0, locals := 21 }) (va_Pc [.ref (ma 0), .int a0, .int a1] (wPre D kc [(ma 0, .inr (11, [.ref (ma 1), .ref (ma 2), .int 0, .long 0, .long 1, .ref (ma 3), .ref (ma 4), .ref (ma 5), .ref (ma 6), .ref (ma 7), .int 0, .int 0, .int 0, .int 0, .int 0, .int 0, .int (-1), .int (-1), .int 0, .int 0, .int 0, .ref (ma 8), .int 0, .int 0, .int (-1), .int 0, .int 0, .int 0, .ref (ma 9), .int 0, .int 0, .ref (ma 10), .ref (ma 11), .ref (ma 12), .int 0, .int 0])), (ma 1, .inl (kc 0, 2880, .inl at0))] sz)) (va_Qi (fun (r : Int32) (_ : Unit) => r = (-1)) wAny (va_A [(ma 0, .inr (11, [.ref (ma 1), .ref (ma 2), .int 0, .long 0, .long 1, .ref (ma 3), .ref (ma 4), .ref (ma 5), .ref (ma 6), .ref (ma 7), .int 0, .int 0, .int 0, .int 0, .int 0, .int 0, .int (-1), .int (-1), .int 0, .int 0, .int 0, .ref (ma 8), .int 0, .int 0, .int (-1), .int 0, .int 0, .int 0, .ref (ma 9), .int 0, .int 0, .ref (ma 10), .ref (ma 11), .ref (ma 12), .int 0, .int 0])), (ma 1, .inl (kc 0, 2880, .inl at0))] sz)) 0 0 (va_A [(ma 0, .inr (11, [.ref (ma 1), .ref (ma 2), .int 0, .long 0, .long 1, .ref (ma 3), .ref (ma 4), .ref (ma 5), .ref (ma 6), .ref (ma 7), .int 0, .int 0, .int 0, .int 0, .int 0, .int 0, .int (-1), .int (-1), .int 0, .int 0, .int 0, .ref (ma 8), .int 0, .int 0, .int (-1), .int 0, .int 0, .int 0, .ref (ma 9), .int 0, .int 0, .ref (ma 10), .ref (ma 11), .ref (ma 12), .int 0, .int 0])), (ma 1, .inl (kc 0, 2880, .inl at0))] sz) := by
  refine Met.ofW (cc := cX12_grocer) (maxL := 3) (ret := (some .int)) (by decide) rfl ?_
  intro p e s m args below meth c s₁ B hml hv
  obtain ⟨rfl, hsz, hP, hE, hD0⟩ := hv
  have hx := B.exec
  have hb := B.bytes
  have hr := B.returns
  have hts := atoms_spec (ws := vq_grocer) B.pre
  have hown : s.vm.findClass RX12 = some m.cls := findClass_of_methodNamed B.named
  have hlocks := B.notSynchronized
  subst hsz
  have hD := hD0.self (sz := s.heap.size)
  generalize hAe : va_A [(ma 0, .inr (11, [.ref (ma 1), .ref (ma 2), .int 0, .long 0, .long 1, .ref (ma 3), .ref (ma 4), .ref (ma 5), .ref (ma 6), .ref (ma 7), .int 0, .int 0, .int 0, .int 0, .int 0, .int 0, .int (-1), .int (-1), .int 0, .int 0, .int 0, .ref (ma 8), .int 0, .int 0, .int (-1), .int 0, .int 0, .int 0, .ref (ma 9), .int 0, .int 0, .ref (ma 10), .ref (ma 11), .ref (ma 12), .int 0, .int 0])), (ma 1, .inl (kc 0, 2880, .inl at0))] s.heap.size = A at hD ⊢
  have hA : ∀ q : Nat, s.heap.size ≤ q → A q := fun q h => by rw [← hAe]; exact Or.inr h
  have hS : va_S A s.heap s.heap [] := va_S.rf
  have hK := hE.1
  have hP : va_P D vwCl [(ma 0, .inr (11, [.ref (ma 1), .ref (ma 2), .int 0, .long 0, .long 1, .ref (ma 3), .ref (ma 4), .ref (ma 5), .ref (ma 6), .ref (ma 7), .int 0, .int 0, .int 0, .int 0, .int 0, .int 0, .int (-1), .int (-1), .int 0, .int 0, .int 0, .ref (ma 8), .int 0, .int 0, .int (-1), .int 0, .int 0, .int 0, .ref (ma 9), .int 0, .int 0, .ref (ma 10), .ref (ma 11), .ref (ma 12), .int 0, .int 0])), (ma 1, .inl (kc 0, 2880, .inl at0))] s.heap := hP
  have hl := lv_entry ([.ref (ma 0), .int a0, .int a1]) (n := 3) (Nat.le_of_ble_eq_true rfl)
  rw [lg_entry_eq]
  generalize (lg_sl ([.ref (ma 0), .int a0, .int a1]) ++ List.replicate (3 - (lg_sl ([.ref (ma 0), .int a0, .int a1])).length) Slot.unset).toArray = ls at hl ⊢
  have hl : lv_has ls 3 [(0, .ref (ma 0)), (1, .int a0), (2, .int a1)] := hl
  refine lv_iload_n hx hb dX12_grocer_0 rfl (lv_at hl 1 rfl) ?_
  refine lv_if_lt (tgt := 43) hx hb dX12_grocer_1 (by decide) (fun c_1 => ?_) (fun c_1 => ?_)
  · refine lv_aload_n hx hb dX12_grocer_43 rfl (lv_at hl 0 rfl) ?_
    refine lv_iconst (v := 1) hx hb dX12_grocer_44 (by decide) ?_
    have hPc := hP.sub (ws' := [(ma 0, .inr (11, [.ref (ma 1), .ref (ma 2), .int 0, .long 0, .long 1, .ref (ma 3), .ref (ma 4), .ref (ma 5), .ref (ma 6), .ref (ma 7), .int 0, .int 0, .int 0, .int 0, .int 0, .int 0, .int (-1), .int (-1), .int 0, .int 0, .int 0, .ref (ma 8), .int 0, .int 0, .int (-1), .int 0, .int 0, .int 0, .ref (ma 9), .int 0, .int 0, .ref (ma 10), .ref (ma 11), .ref (ma 12), .int 0, .int 0]))]) [0] rfl
    have hDc := hD.sub (ws' := [(ma 0, .inr (11, [.ref (ma 1), .ref (ma 2), .int 0, .long 0, .long 1, .ref (ma 3), .ref (ma 4), .ref (ma 5), .ref (ma 6), .ref (ma 7), .int 0, .int 0, .int 0, .int 0, .int 0, .int 0, .int (-1), .int (-1), .int 0, .int 0, .int 0, .ref (ma 8), .int 0, .int 0, .int (-1), .int 0, .int 0, .int 0, .ref (ma 9), .int 0, .int 0, .ref (ma 10), .ref (ma 11), .ref (ma 12), .int 0, .int 0]))]) [0] (by decide) rfl
    have hFc := va_free (wc := [(ma 0, .inr (11, [.ref (ma 1), .ref (ma 2), .int 0, .long 0, .long 1, .ref (ma 3), .ref (ma 4), .ref (ma 5), .ref (ma 6), .ref (ma 7), .int 0, .int 0, .int 0, .int 0, .int 0, .int 0, .int (-1), .int (-1), .int 0, .int 0, .int 0, .ref (ma 8), .int 0, .int 0, .int (-1), .int 0, .int 0, .int 0, .ref (ma 9), .int 0, .int 0, .ref (ma 10), .ref (ma 11), .ref (ma 12), .int 0, .int 0]))]) hD hS hA [0] rfl
    refine va_calli (va_runV (As := [.int 1]) (rest := []) ⟨hx, hb, hml, hown, hts⟩ (m_refuse l D kc s.heap.size ma 0 0 1 0 0 0 0 0 0 (-1) (-1) 0 0 0 0 0 (-1) 0 0 0 0 0 0 0 1) (cwV 1 hts gq_grocer_72_m_refuse rfl rfl rfl (by decide +kernel) ⟨Nat.le_of_ble_eq_true rfl, Nat.le_of_ble_eq_true rfl⟩) (preV_ok hPc hDc hE (ci := 11) (q0 := 0) rfl rfl) rfl rfl hl.1 rfl (lv_room (Nat.le_of_ble_eq_true rfl)) dX12_grocer_45 ⟨Nat.le_of_ble_eq_true rfl, Nat.le_of_ble_eq_true rfl⟩) hS (fun q _ h => hFc q h) hFc (fun r_45_1 u9 t9 H locs ht hvm hw hB hz1 hk1 hS => ?_)
    obtain ⟨hP1, hD1⟩ := hB
    rw [ht] at hP1
    obtain ⟨hP, hD⟩ := va_join (wr := [(ma 1, .inl (kc 0, 2880, .inl at0))]) (w1 := [(ma 0, .inr (11, [.ref (ma 1), .ref (ma 2), .int 1, .long 0, .long 1, .ref (ma 3), .ref (ma 4), .ref (ma 5), .ref (ma 6), .ref (ma 7), .int 0, .int 0, .int 0, .int 0, .int 0, .int 0, .int (-1), .int (-1), .int 0, .int 0, .int 0, .ref (ma 8), .int 0, .int 0, .int (-1), .int 0, .int 0, .int 0, .ref (ma 9), .int 0, .int 0, .ref (ma 10), .ref (ma 11), .ref (ma 12), .int 0, .int 0]))]) hP hD [0] [1] rfl rfl (by decide) (by decide) hk1 hFc hP1 hD1
    have hP : va_P D vwCl [(ma 1, .inl (kc 0, 2880, .inl at0)), (ma 0, .inr (11, [.ref (ma 1), .ref (ma 2), .int 1, .long 0, .long 1, .ref (ma 3), .ref (ma 4), .ref (ma 5), .ref (ma 6), .ref (ma 7), .int 0, .int 0, .int 0, .int 0, .int 0, .int 0, .int (-1), .int (-1), .int 0, .int 0, .int 0, .ref (ma 8), .int 0, .int 0, .int (-1), .int 0, .int 0, .int 0, .ref (ma 9), .int 0, .int 0, .ref (ma 10), .ref (ma 11), .ref (ma 12), .int 0, .int 0]))] H := hP
    have hD : va_D A [(ma 1, .inl (kc 0, 2880, .inl at0)), (ma 0, .inr (11, [.ref (ma 1), .ref (ma 2), .int 1, .long 0, .long 1, .ref (ma 3), .ref (ma 4), .ref (ma 5), .ref (ma 6), .ref (ma 7), .int 0, .int 0, .int 0, .int 0, .int 0, .int 0, .int (-1), .int (-1), .int 0, .int 0, .int 0, .ref (ma 8), .int 0, .int 0, .int (-1), .int 0, .int 0, .int 0, .ref (ma 9), .int 0, .int 0, .ref (ma 10), .ref (ma 11), .ref (ma 12), .int 0, .int 0]))] := hD
    subst hw
    exact W.iret (v := (-1)) hx hb hr (fun t9 ht hW => ⟨⟨(-1), (), rfl, rfl, trivial⟩, hS.F ht⟩) hS.2.2 dX12_grocer_48
  · refine lv_iload_n hx hb dX12_grocer_4 rfl (lv_at hl 1 rfl) ?_
    refine lv_aload_n hx hb dX12_grocer_5 rfl (lv_at hl 0 rfl) ?_
    refine va_get (D := D) (ci := 11) (v := .ref (ma 1)) (C := RX12) (T := TX12) (N := 36) hx hb hts iq_grocer_X12 hown hK hP 0 rfl rfl 0 (by decide) (hts (.fieldLink RX12 7 "SaltStreetModel" "at" "[I") (List.mem_of_getElem? (i := 7) rfl)) (fun _ h9 => h9) rfl dX12_grocer_6 ?_
    refine lv_iconst (v := 3) hx hb dX12_grocer_9 (by decide) ?_
    refine va_iald hx hb hK hP 1 0 (f := at0) rfl rfl (by unfold vp_in; decide) dX12_grocer_10 ?_
    refine lv_ci (y := 0) (by decide) ?_
    refine lv_icmp_ge (tgt := 43) hx hb dX12_grocer_11 (by decide) (fun _ => ?_) (fun h => absurd (nlt_le (by assumption)) h)
    refine lv_aload_n hx hb dX12_grocer_43 rfl (lv_at hl 0 rfl) ?_
    refine lv_iconst (v := 1) hx hb dX12_grocer_44 (by decide) ?_
    have hPc := hP.sub (ws' := [(ma 0, .inr (11, [.ref (ma 1), .ref (ma 2), .int 0, .long 0, .long 1, .ref (ma 3), .ref (ma 4), .ref (ma 5), .ref (ma 6), .ref (ma 7), .int 0, .int 0, .int 0, .int 0, .int 0, .int 0, .int (-1), .int (-1), .int 0, .int 0, .int 0, .ref (ma 8), .int 0, .int 0, .int (-1), .int 0, .int 0, .int 0, .ref (ma 9), .int 0, .int 0, .ref (ma 10), .ref (ma 11), .ref (ma 12), .int 0, .int 0]))]) [0] rfl
    have hDc := hD.sub (ws' := [(ma 0, .inr (11, [.ref (ma 1), .ref (ma 2), .int 0, .long 0, .long 1, .ref (ma 3), .ref (ma 4), .ref (ma 5), .ref (ma 6), .ref (ma 7), .int 0, .int 0, .int 0, .int 0, .int 0, .int 0, .int (-1), .int (-1), .int 0, .int 0, .int 0, .ref (ma 8), .int 0, .int 0, .int (-1), .int 0, .int 0, .int 0, .ref (ma 9), .int 0, .int 0, .ref (ma 10), .ref (ma 11), .ref (ma 12), .int 0, .int 0]))]) [0] (by decide) rfl
    have hFc := va_free (wc := [(ma 0, .inr (11, [.ref (ma 1), .ref (ma 2), .int 0, .long 0, .long 1, .ref (ma 3), .ref (ma 4), .ref (ma 5), .ref (ma 6), .ref (ma 7), .int 0, .int 0, .int 0, .int 0, .int 0, .int 0, .int (-1), .int (-1), .int 0, .int 0, .int 0, .ref (ma 8), .int 0, .int 0, .int (-1), .int 0, .int 0, .int 0, .ref (ma 9), .int 0, .int 0, .ref (ma 10), .ref (ma 11), .ref (ma 12), .int 0, .int 0]))]) hD hS hA [0] rfl
    refine va_calli (va_runV (As := [.int 1]) (rest := []) ⟨hx, hb, hml, hown, hts⟩ (m_refuse l D kc s.heap.size ma 0 0 1 0 0 0 0 0 0 (-1) (-1) 0 0 0 0 0 (-1) 0 0 0 0 0 0 0 1) (cwV 1 hts gq_grocer_72_m_refuse rfl rfl rfl (by decide +kernel) ⟨Nat.le_of_ble_eq_true rfl, Nat.le_of_ble_eq_true rfl⟩) (preV_ok hPc hDc hE (ci := 11) (q0 := 0) rfl rfl) rfl rfl hl.1 rfl (lv_room (Nat.le_of_ble_eq_true rfl)) dX12_grocer_45 ⟨Nat.le_of_ble_eq_true rfl, Nat.le_of_ble_eq_true rfl⟩) hS (fun q _ h => hFc q h) hFc (fun r_45_1 u9 t9 H locs ht hvm hw hB hz1 hk1 hS => ?_)
    obtain ⟨hP1, hD1⟩ := hB
    rw [ht] at hP1
    obtain ⟨hP, hD⟩ := va_join (wr := [(ma 1, .inl (kc 0, 2880, .inl at0))]) (w1 := [(ma 0, .inr (11, [.ref (ma 1), .ref (ma 2), .int 1, .long 0, .long 1, .ref (ma 3), .ref (ma 4), .ref (ma 5), .ref (ma 6), .ref (ma 7), .int 0, .int 0, .int 0, .int 0, .int 0, .int 0, .int (-1), .int (-1), .int 0, .int 0, .int 0, .ref (ma 8), .int 0, .int 0, .int (-1), .int 0, .int 0, .int 0, .ref (ma 9), .int 0, .int 0, .ref (ma 10), .ref (ma 11), .ref (ma 12), .int 0, .int 0]))]) hP hD [0] [1] rfl rfl (by decide) (by decide) hk1 hFc hP1 hD1
    have hP : va_P D vwCl [(ma 1, .inl (kc 0, 2880, .inl at0)), (ma 0, .inr (11, [.ref (ma 1), .ref (ma 2), .int 1, .long 0, .long 1, .ref (ma 3), .ref (ma 4), .ref (ma 5), .ref (ma 6), .ref (ma 7), .int 0, .int 0, .int 0, .int 0, .int 0, .int 0, .int (-1), .int (-1), .int 0, .int 0, .int 0, .ref (ma 8), .int 0, .int 0, .int (-1), .int 0, .int 0, .int 0, .ref (ma 9), .int 0, .int 0, .ref (ma 10), .ref (ma 11), .ref (ma 12), .int 0, .int 0]))] H := hP
    have hD : va_D A [(ma 1, .inl (kc 0, 2880, .inl at0)), (ma 0, .inr (11, [.ref (ma 1), .ref (ma 2), .int 1, .long 0, .long 1, .ref (ma 3), .ref (ma 4), .ref (ma 5), .ref (ma 6), .ref (ma 7), .int 0, .int 0, .int 0, .int 0, .int 0, .int 0, .int (-1), .int (-1), .int 0, .int 0, .int 0, .ref (ma 8), .int 0, .int 0, .int (-1), .int 0, .int 0, .int 0, .ref (ma 9), .int 0, .int 0, .ref (ma 10), .ref (ma 11), .ref (ma 12), .int 0, .int 0]))] := hD
    subst hw
    exact W.iret (v := (-1)) hx hb hr (fun t9 ht hW => ⟨⟨(-1), (), rfl, rfl, trivial⟩, hS.F ht⟩) hS.2.2 dX12_grocer_48
theorem dX12_cat_0 : decode cX12_cat 0 = .ok (.iload_n 1, 1) := by decide +kernel
theorem dX12_cat_1 : decode cX12_cat 1 = .ok (.ifCond .lt 42, 3) := by decide +kernel
theorem dX12_cat_43 : decode cX12_cat 43 = .ok (.aload_n 0, 1) := by decide +kernel
theorem dX12_cat_44 : decode cX12_cat 44 = .ok (.iconst 1, 1) := by decide +kernel
theorem dX12_cat_45 : decode cX12_cat 45 = .ok (.invokevirtual 72, 3) := by decide +kernel
theorem dX12_cat_48 : decode cX12_cat 48 = .ok (.ireturn, 1) := by decide +kernel
theorem dX12_cat_4 : decode cX12_cat 4 = .ok (.iload_n 1, 1) := by decide +kernel
theorem dX12_cat_5 : decode cX12_cat 5 = .ok (.aload_n 0, 1) := by decide +kernel
theorem dX12_cat_6 : decode cX12_cat 6 = .ok (.getfield 7, 3) := by decide +kernel
theorem dX12_cat_9 : decode cX12_cat 9 = .ok (.iconst 2, 1) := by decide +kernel
theorem dX12_cat_10 : decode cX12_cat 10 = .ok (.iaload, 1) := by decide +kernel
theorem dX12_cat_11 : decode cX12_cat 11 = .ok (.if_icmp .ge 32, 3) := by decide +kernel
def vdq_cat : List Cond := [.code yX12_cat cX12_cat 3 (some .int), .methodLink RX12 72 yX12_refuse, .code yX12_refuse cX12_refuse 2 (some .int), .fieldLink RX12 66 "SaltStreetModel" "status" "I", .instanceMethod yX12_refuse, .selects RX12 yX12_refuse yX12_refuse, .initialized RX12, .fieldLink RX12 7 "SaltStreetModel" "at" "[I"]
def vq_cat : List Cond := vdq_cat ++ (wsX120 ++ ([] : List Cond))
theorem iq_cat_X12 : ∀ w ∈ wsX120, w ∈ vq_cat := fun _ h => List.mem_append_right _ (List.mem_append_left _ h)
set_option maxRecDepth 20000 in
theorem gq_cat_72_m_refuse : GoodIn vq_cat (wsV RX12 72 RX12 yX12_refuse vm_refuse) := (goodIn_app (goodIn_r _ [1, 4, 5, 6] rfl (by decide +kernel)) (goodIn_app (goodIn_r vdm_refuse [2, 3] rfl (by decide +kernel)) (goodIn_app (goodIn_sub iq_cat_X12 gdX12) goodIn_nil)))
set_option maxHeartbeats 4000000 in
set_option maxRecDepth 100000 in
theorem q_cat (l : Launch) (D : va_G) (kc : Nat → ClassId) (sz : Nat) (ma : Nat → Nat) (a0 : Int32) (a1 : Int32) : Met l yX12_cat vq_cat ({ frames := 1, cells := 0, slots := 0, locals := 21 }) (va_Pc [.ref (ma 0), .int a0, .int a1] (wPre D kc [(ma 0, .inr (11, [.ref (ma 1), .ref (ma 2), .int 0, .long 0, .long 1, .ref (ma 3), .ref (ma 4), .ref (ma 5), .ref (ma 6), .ref (ma 7), .int 0, .int 0, .int 0, .int 0, .int 0, .int 0, .int (-1), .int (-1), .int 0, .int 0, .int 0, .ref (ma 8), .int 0, .int 0, .int (-1), .int 0, .int 0, .int 0, .ref (ma 9), .int 0, .int 0, .ref (ma 10), .ref (ma 11), .ref (ma 12), .int 0, .int 0])), (ma 1, .inl (kc 0, 2880, .inl at0))] sz)) (va_Qi (fun (r : Int32) (_ : Unit) => r = (-1)) wAny (va_A [(ma 0, .inr (11, [.ref (ma 1), .ref (ma 2), .int 0, .long 0, .long 1, .ref (ma 3), .ref (ma 4), .ref (ma 5), .ref (ma 6), .ref (ma 7), .int 0, .int 0, .int 0, .int 0, .int 0, .int 0, .int (-1), .int (-1), .int 0, .int 0, .int 0, .ref (ma 8), .int 0, .int 0, .int (-1), .int 0, .int 0, .int 0, .ref (ma 9), .int 0, .int 0, .ref (ma 10), .ref (ma 11), .ref (ma 12), .int 0, .int 0])), (ma 1, .inl (kc 0, 2880, .inl at0))] sz)) 0 0 (va_A [(ma 0, .inr (11, [.ref (ma 1), .ref (ma 2), .int 0, .long 0, .long 1, .ref (ma 3), .ref (ma 4), .ref (ma 5), .ref (ma 6), .ref (ma 7), .int 0, .int 0, .int 0, .int 0, .int 0, .int 0, .int (-1), .int (-1), .int 0, .int 0, .int 0, .ref (ma 8), .int 0, .int 0, .int (-1), .int 0, .int 0, .int 0, .ref (ma 9), .int 0, .int 0, .ref (ma 10), .ref (ma 11), .ref (ma 12), .int 0, .int 0])), (ma 1, .inl (kc 0, 2880, .inl at0))] sz) := by
  refine Met.ofW (cc := cX12_cat) (maxL := 3) (ret := (some .int)) (by decide) rfl ?_
  intro p e s m args below meth c s₁ B hml hv
  obtain ⟨rfl, hsz, hP, hE, hD0⟩ := hv
  have hx := B.exec
  have hb := B.bytes
  have hr := B.returns
  have hts := atoms_spec (ws := vq_cat) B.pre
  have hown : s.vm.findClass RX12 = some m.cls := findClass_of_methodNamed B.named
  have hlocks := B.notSynchronized
  subst hsz
  have hD := hD0.self (sz := s.heap.size)
  generalize hAe : va_A [(ma 0, .inr (11, [.ref (ma 1), .ref (ma 2), .int 0, .long 0, .long 1, .ref (ma 3), .ref (ma 4), .ref (ma 5), .ref (ma 6), .ref (ma 7), .int 0, .int 0, .int 0, .int 0, .int 0, .int 0, .int (-1), .int (-1), .int 0, .int 0, .int 0, .ref (ma 8), .int 0, .int 0, .int (-1), .int 0, .int 0, .int 0, .ref (ma 9), .int 0, .int 0, .ref (ma 10), .ref (ma 11), .ref (ma 12), .int 0, .int 0])), (ma 1, .inl (kc 0, 2880, .inl at0))] s.heap.size = A at hD ⊢
  have hA : ∀ q : Nat, s.heap.size ≤ q → A q := fun q h => by rw [← hAe]; exact Or.inr h
  have hS : va_S A s.heap s.heap [] := va_S.rf
  have hK := hE.1
  have hP : va_P D vwCl [(ma 0, .inr (11, [.ref (ma 1), .ref (ma 2), .int 0, .long 0, .long 1, .ref (ma 3), .ref (ma 4), .ref (ma 5), .ref (ma 6), .ref (ma 7), .int 0, .int 0, .int 0, .int 0, .int 0, .int 0, .int (-1), .int (-1), .int 0, .int 0, .int 0, .ref (ma 8), .int 0, .int 0, .int (-1), .int 0, .int 0, .int 0, .ref (ma 9), .int 0, .int 0, .ref (ma 10), .ref (ma 11), .ref (ma 12), .int 0, .int 0])), (ma 1, .inl (kc 0, 2880, .inl at0))] s.heap := hP
  have hl := lv_entry ([.ref (ma 0), .int a0, .int a1]) (n := 3) (Nat.le_of_ble_eq_true rfl)
  rw [lg_entry_eq]
  generalize (lg_sl ([.ref (ma 0), .int a0, .int a1]) ++ List.replicate (3 - (lg_sl ([.ref (ma 0), .int a0, .int a1])).length) Slot.unset).toArray = ls at hl ⊢
  have hl : lv_has ls 3 [(0, .ref (ma 0)), (1, .int a0), (2, .int a1)] := hl
  refine lv_iload_n hx hb dX12_cat_0 rfl (lv_at hl 1 rfl) ?_
  refine lv_if_lt (tgt := 43) hx hb dX12_cat_1 (by decide) (fun c_1 => ?_) (fun c_1 => ?_)
  · refine lv_aload_n hx hb dX12_cat_43 rfl (lv_at hl 0 rfl) ?_
    refine lv_iconst (v := 1) hx hb dX12_cat_44 (by decide) ?_
    have hPc := hP.sub (ws' := [(ma 0, .inr (11, [.ref (ma 1), .ref (ma 2), .int 0, .long 0, .long 1, .ref (ma 3), .ref (ma 4), .ref (ma 5), .ref (ma 6), .ref (ma 7), .int 0, .int 0, .int 0, .int 0, .int 0, .int 0, .int (-1), .int (-1), .int 0, .int 0, .int 0, .ref (ma 8), .int 0, .int 0, .int (-1), .int 0, .int 0, .int 0, .ref (ma 9), .int 0, .int 0, .ref (ma 10), .ref (ma 11), .ref (ma 12), .int 0, .int 0]))]) [0] rfl
    have hDc := hD.sub (ws' := [(ma 0, .inr (11, [.ref (ma 1), .ref (ma 2), .int 0, .long 0, .long 1, .ref (ma 3), .ref (ma 4), .ref (ma 5), .ref (ma 6), .ref (ma 7), .int 0, .int 0, .int 0, .int 0, .int 0, .int 0, .int (-1), .int (-1), .int 0, .int 0, .int 0, .ref (ma 8), .int 0, .int 0, .int (-1), .int 0, .int 0, .int 0, .ref (ma 9), .int 0, .int 0, .ref (ma 10), .ref (ma 11), .ref (ma 12), .int 0, .int 0]))]) [0] (by decide) rfl
    have hFc := va_free (wc := [(ma 0, .inr (11, [.ref (ma 1), .ref (ma 2), .int 0, .long 0, .long 1, .ref (ma 3), .ref (ma 4), .ref (ma 5), .ref (ma 6), .ref (ma 7), .int 0, .int 0, .int 0, .int 0, .int 0, .int 0, .int (-1), .int (-1), .int 0, .int 0, .int 0, .ref (ma 8), .int 0, .int 0, .int (-1), .int 0, .int 0, .int 0, .ref (ma 9), .int 0, .int 0, .ref (ma 10), .ref (ma 11), .ref (ma 12), .int 0, .int 0]))]) hD hS hA [0] rfl
    refine va_calli (va_runV (As := [.int 1]) (rest := []) ⟨hx, hb, hml, hown, hts⟩ (m_refuse l D kc s.heap.size ma 0 0 1 0 0 0 0 0 0 (-1) (-1) 0 0 0 0 0 (-1) 0 0 0 0 0 0 0 1) (cwV 1 hts gq_cat_72_m_refuse rfl rfl rfl (by decide +kernel) ⟨Nat.le_of_ble_eq_true rfl, Nat.le_of_ble_eq_true rfl⟩) (preV_ok hPc hDc hE (ci := 11) (q0 := 0) rfl rfl) rfl rfl hl.1 rfl (lv_room (Nat.le_of_ble_eq_true rfl)) dX12_cat_45 ⟨Nat.le_of_ble_eq_true rfl, Nat.le_of_ble_eq_true rfl⟩) hS (fun q _ h => hFc q h) hFc (fun r_45_1 u9 t9 H locs ht hvm hw hB hz1 hk1 hS => ?_)
    obtain ⟨hP1, hD1⟩ := hB
    rw [ht] at hP1
    obtain ⟨hP, hD⟩ := va_join (wr := [(ma 1, .inl (kc 0, 2880, .inl at0))]) (w1 := [(ma 0, .inr (11, [.ref (ma 1), .ref (ma 2), .int 1, .long 0, .long 1, .ref (ma 3), .ref (ma 4), .ref (ma 5), .ref (ma 6), .ref (ma 7), .int 0, .int 0, .int 0, .int 0, .int 0, .int 0, .int (-1), .int (-1), .int 0, .int 0, .int 0, .ref (ma 8), .int 0, .int 0, .int (-1), .int 0, .int 0, .int 0, .ref (ma 9), .int 0, .int 0, .ref (ma 10), .ref (ma 11), .ref (ma 12), .int 0, .int 0]))]) hP hD [0] [1] rfl rfl (by decide) (by decide) hk1 hFc hP1 hD1
    have hP : va_P D vwCl [(ma 1, .inl (kc 0, 2880, .inl at0)), (ma 0, .inr (11, [.ref (ma 1), .ref (ma 2), .int 1, .long 0, .long 1, .ref (ma 3), .ref (ma 4), .ref (ma 5), .ref (ma 6), .ref (ma 7), .int 0, .int 0, .int 0, .int 0, .int 0, .int 0, .int (-1), .int (-1), .int 0, .int 0, .int 0, .ref (ma 8), .int 0, .int 0, .int (-1), .int 0, .int 0, .int 0, .ref (ma 9), .int 0, .int 0, .ref (ma 10), .ref (ma 11), .ref (ma 12), .int 0, .int 0]))] H := hP
    have hD : va_D A [(ma 1, .inl (kc 0, 2880, .inl at0)), (ma 0, .inr (11, [.ref (ma 1), .ref (ma 2), .int 1, .long 0, .long 1, .ref (ma 3), .ref (ma 4), .ref (ma 5), .ref (ma 6), .ref (ma 7), .int 0, .int 0, .int 0, .int 0, .int 0, .int 0, .int (-1), .int (-1), .int 0, .int 0, .int 0, .ref (ma 8), .int 0, .int 0, .int (-1), .int 0, .int 0, .int 0, .ref (ma 9), .int 0, .int 0, .ref (ma 10), .ref (ma 11), .ref (ma 12), .int 0, .int 0]))] := hD
    subst hw
    exact W.iret (v := (-1)) hx hb hr (fun t9 ht hW => ⟨⟨(-1), (), rfl, rfl, trivial⟩, hS.F ht⟩) hS.2.2 dX12_cat_48
  · refine lv_iload_n hx hb dX12_cat_4 rfl (lv_at hl 1 rfl) ?_
    refine lv_aload_n hx hb dX12_cat_5 rfl (lv_at hl 0 rfl) ?_
    refine va_get (D := D) (ci := 11) (v := .ref (ma 1)) (C := RX12) (T := TX12) (N := 36) hx hb hts iq_cat_X12 hown hK hP 0 rfl rfl 0 (by decide) (hts (.fieldLink RX12 7 "SaltStreetModel" "at" "[I") (List.mem_of_getElem? (i := 7) rfl)) (fun _ h9 => h9) rfl dX12_cat_6 ?_
    refine lv_iconst (v := 2) hx hb dX12_cat_9 (by decide) ?_
    refine va_iald hx hb hK hP 1 0 (f := at0) rfl rfl (by unfold vp_in; decide) dX12_cat_10 ?_
    refine lv_ci (y := 0) (by decide) ?_
    refine lv_icmp_ge (tgt := 43) hx hb dX12_cat_11 (by decide) (fun _ => ?_) (fun h => absurd (nlt_le (by assumption)) h)
    refine lv_aload_n hx hb dX12_cat_43 rfl (lv_at hl 0 rfl) ?_
    refine lv_iconst (v := 1) hx hb dX12_cat_44 (by decide) ?_
    have hPc := hP.sub (ws' := [(ma 0, .inr (11, [.ref (ma 1), .ref (ma 2), .int 0, .long 0, .long 1, .ref (ma 3), .ref (ma 4), .ref (ma 5), .ref (ma 6), .ref (ma 7), .int 0, .int 0, .int 0, .int 0, .int 0, .int 0, .int (-1), .int (-1), .int 0, .int 0, .int 0, .ref (ma 8), .int 0, .int 0, .int (-1), .int 0, .int 0, .int 0, .ref (ma 9), .int 0, .int 0, .ref (ma 10), .ref (ma 11), .ref (ma 12), .int 0, .int 0]))]) [0] rfl
    have hDc := hD.sub (ws' := [(ma 0, .inr (11, [.ref (ma 1), .ref (ma 2), .int 0, .long 0, .long 1, .ref (ma 3), .ref (ma 4), .ref (ma 5), .ref (ma 6), .ref (ma 7), .int 0, .int 0, .int 0, .int 0, .int 0, .int 0, .int (-1), .int (-1), .int 0, .int 0, .int 0, .ref (ma 8), .int 0, .int 0, .int (-1), .int 0, .int 0, .int 0, .ref (ma 9), .int 0, .int 0, .ref (ma 10), .ref (ma 11), .ref (ma 12), .int 0, .int 0]))]) [0] (by decide) rfl
    have hFc := va_free (wc := [(ma 0, .inr (11, [.ref (ma 1), .ref (ma 2), .int 0, .long 0, .long 1, .ref (ma 3), .ref (ma 4), .ref (ma 5), .ref (ma 6), .ref (ma 7), .int 0, .int 0, .int 0, .int 0, .int 0, .int 0, .int (-1), .int (-1), .int 0, .int 0, .int 0, .ref (ma 8), .int 0, .int 0, .int (-1), .int 0, .int 0, .int 0, .ref (ma 9), .int 0, .int 0, .ref (ma 10), .ref (ma 11), .ref (ma 12), .int 0, .int 0]))]) hD hS hA [0] rfl
    refine va_calli (va_runV (As := [.int 1]) (rest := []) ⟨hx, hb, hml, hown, hts⟩ (m_refuse l D kc s.heap.size ma 0 0 1 0 0 0 0 0 0 (-1) (-1) 0 0 0 0 0 (-1) 0 0 0 0 0 0 0 1) (cwV 1 hts gq_cat_72_m_refuse rfl rfl rfl (by decide +kernel) ⟨Nat.le_of_ble_eq_true rfl, Nat.le_of_ble_eq_true rfl⟩) (preV_ok hPc hDc hE (ci := 11) (q0 := 0) rfl rfl) rfl rfl hl.1 rfl (lv_room (Nat.le_of_ble_eq_true rfl)) dX12_cat_45 ⟨Nat.le_of_ble_eq_true rfl, Nat.le_of_ble_eq_true rfl⟩) hS (fun q _ h => hFc q h) hFc (fun r_45_1 u9 t9 H locs ht hvm hw hB hz1 hk1 hS => ?_)
    obtain ⟨hP1, hD1⟩ := hB
    rw [ht] at hP1
    obtain ⟨hP, hD⟩ := va_join (wr := [(ma 1, .inl (kc 0, 2880, .inl at0))]) (w1 := [(ma 0, .inr (11, [.ref (ma 1), .ref (ma 2), .int 1, .long 0, .long 1, .ref (ma 3), .ref (ma 4), .ref (ma 5), .ref (ma 6), .ref (ma 7), .int 0, .int 0, .int 0, .int 0, .int 0, .int 0, .int (-1), .int (-1), .int 0, .int 0, .int 0, .ref (ma 8), .int 0, .int 0, .int (-1), .int 0, .int 0, .int 0, .ref (ma 9), .int 0, .int 0, .ref (ma 10), .ref (ma 11), .ref (ma 12), .int 0, .int 0]))]) hP hD [0] [1] rfl rfl (by decide) (by decide) hk1 hFc hP1 hD1
    have hP : va_P D vwCl [(ma 1, .inl (kc 0, 2880, .inl at0)), (ma 0, .inr (11, [.ref (ma 1), .ref (ma 2), .int 1, .long 0, .long 1, .ref (ma 3), .ref (ma 4), .ref (ma 5), .ref (ma 6), .ref (ma 7), .int 0, .int 0, .int 0, .int 0, .int 0, .int 0, .int (-1), .int (-1), .int 0, .int 0, .int 0, .ref (ma 8), .int 0, .int 0, .int (-1), .int 0, .int 0, .int 0, .ref (ma 9), .int 0, .int 0, .ref (ma 10), .ref (ma 11), .ref (ma 12), .int 0, .int 0]))] H := hP
    have hD : va_D A [(ma 1, .inl (kc 0, 2880, .inl at0)), (ma 0, .inr (11, [.ref (ma 1), .ref (ma 2), .int 1, .long 0, .long 1, .ref (ma 3), .ref (ma 4), .ref (ma 5), .ref (ma 6), .ref (ma 7), .int 0, .int 0, .int 0, .int 0, .int 0, .int 0, .int (-1), .int (-1), .int 0, .int 0, .int 0, .ref (ma 8), .int 0, .int 0, .int (-1), .int 0, .int 0, .int 0, .ref (ma 9), .int 0, .int 0, .ref (ma 10), .ref (ma 11), .ref (ma 12), .int 0, .int 0]))] := hD
    subst hw
    exact W.iret (v := (-1)) hx hb hr (fun t9 ht hW => ⟨⟨(-1), (), rfl, rfl, trivial⟩, hS.F ht⟩) hS.2.2 dX12_cat_48
theorem dX12_buy_0 : decode cX12_buy 0 = .ok (.iload_n 1, 1) := by decide +kernel
theorem dX12_buy_1 : decode cX12_buy 1 = .ok (.ifCond .lt 33, 3) := by decide +kernel
theorem dX12_buy_34 : decode cX12_buy 34 = .ok (.aload_n 0, 1) := by decide +kernel
theorem dX12_buy_35 : decode cX12_buy 35 = .ok (.iconst 1, 1) := by decide +kernel
theorem dX12_buy_36 : decode cX12_buy 36 = .ok (.invokevirtual 72, 3) := by decide +kernel
theorem dX12_buy_39 : decode cX12_buy 39 = .ok (.ireturn, 1) := by decide +kernel
theorem dX12_buy_4 : decode cX12_buy 4 = .ok (.iload_n 1, 1) := by decide +kernel
theorem dX12_buy_5 : decode cX12_buy 5 = .ok (.aload_n 0, 1) := by decide +kernel
theorem dX12_buy_6 : decode cX12_buy 6 = .ok (.getfield 7, 3) := by decide +kernel
theorem dX12_buy_9 : decode cX12_buy 9 = .ok (.iconst 3, 1) := by decide +kernel
theorem dX12_buy_10 : decode cX12_buy 10 = .ok (.iaload, 1) := by decide +kernel
theorem dX12_buy_11 : decode cX12_buy 11 = .ok (.if_icmp .ge 23, 3) := by decide +kernel
def vdq_buy : List Cond := [.code yX12_buy cX12_buy 4 (some .int), .methodLink RX12 72 yX12_refuse, .code yX12_refuse cX12_refuse 2 (some .int), .fieldLink RX12 66 "SaltStreetModel" "status" "I", .instanceMethod yX12_refuse, .selects RX12 yX12_refuse yX12_refuse, .initialized RX12, .fieldLink RX12 7 "SaltStreetModel" "at" "[I"]
def vq_buy : List Cond := vdq_buy ++ (wsX120 ++ ([] : List Cond))
theorem iq_buy_X12 : ∀ w ∈ wsX120, w ∈ vq_buy := fun _ h => List.mem_append_right _ (List.mem_append_left _ h)
set_option maxRecDepth 20000 in
theorem gq_buy_72_m_refuse : GoodIn vq_buy (wsV RX12 72 RX12 yX12_refuse vm_refuse) := (goodIn_app (goodIn_r _ [1, 4, 5, 6] rfl (by decide +kernel)) (goodIn_app (goodIn_r vdm_refuse [2, 3] rfl (by decide +kernel)) (goodIn_app (goodIn_sub iq_buy_X12 gdX12) goodIn_nil)))
set_option maxHeartbeats 4000000 in
set_option maxRecDepth 100000 in
theorem q_buy (l : Launch) (D : va_G) (kc : Nat → ClassId) (sz : Nat) (ma : Nat → Nat) (a0 : Int32) (a1 : Int32) (a2 : Int32) : Met l yX12_buy vq_buy ({ frames := 1, cells := 0, slots := 0, locals := 21 }) (va_Pc [.ref (ma 0), .int a0, .int a1, .int a2] (wPre D kc [(ma 0, .inr (11, [.ref (ma 1), .ref (ma 2), .int 0, .long 0, .long 1, .ref (ma 3), .ref (ma 4), .ref (ma 5), .ref (ma 6), .ref (ma 7), .int 0, .int 0, .int 0, .int 0, .int 0, .int 0, .int (-1), .int (-1), .int 0, .int 0, .int 0, .ref (ma 8), .int 0, .int 0, .int (-1), .int 0, .int 0, .int 0, .ref (ma 9), .int 0, .int 0, .ref (ma 10), .ref (ma 11), .ref (ma 12), .int 0, .int 0])), (ma 1, .inl (kc 0, 2880, .inl at0))] sz)) (va_Qi (fun (r : Int32) (_ : Unit) => r = (-1)) wAny (va_A [(ma 0, .inr (11, [.ref (ma 1), .ref (ma 2), .int 0, .long 0, .long 1, .ref (ma 3), .ref (ma 4), .ref (ma 5), .ref (ma 6), .ref (ma 7), .int 0, .int 0, .int 0, .int 0, .int 0, .int 0, .int (-1), .int (-1), .int 0, .int 0, .int 0, .ref (ma 8), .int 0, .int 0, .int (-1), .int 0, .int 0, .int 0, .ref (ma 9), .int 0, .int 0, .ref (ma 10), .ref (ma 11), .ref (ma 12), .int 0, .int 0])), (ma 1, .inl (kc 0, 2880, .inl at0))] sz)) 0 0 (va_A [(ma 0, .inr (11, [.ref (ma 1), .ref (ma 2), .int 0, .long 0, .long 1, .ref (ma 3), .ref (ma 4), .ref (ma 5), .ref (ma 6), .ref (ma 7), .int 0, .int 0, .int 0, .int 0, .int 0, .int 0, .int (-1), .int (-1), .int 0, .int 0, .int 0, .ref (ma 8), .int 0, .int 0, .int (-1), .int 0, .int 0, .int 0, .ref (ma 9), .int 0, .int 0, .ref (ma 10), .ref (ma 11), .ref (ma 12), .int 0, .int 0])), (ma 1, .inl (kc 0, 2880, .inl at0))] sz) := by
  refine Met.ofW (cc := cX12_buy) (maxL := 4) (ret := (some .int)) (by decide) rfl ?_
  intro p e s m args below meth c s₁ B hml hv
  obtain ⟨rfl, hsz, hP, hE, hD0⟩ := hv
  have hx := B.exec
  have hb := B.bytes
  have hr := B.returns
  have hts := atoms_spec (ws := vq_buy) B.pre
  have hown : s.vm.findClass RX12 = some m.cls := findClass_of_methodNamed B.named
  have hlocks := B.notSynchronized
  subst hsz
  have hD := hD0.self (sz := s.heap.size)
  generalize hAe : va_A [(ma 0, .inr (11, [.ref (ma 1), .ref (ma 2), .int 0, .long 0, .long 1, .ref (ma 3), .ref (ma 4), .ref (ma 5), .ref (ma 6), .ref (ma 7), .int 0, .int 0, .int 0, .int 0, .int 0, .int 0, .int (-1), .int (-1), .int 0, .int 0, .int 0, .ref (ma 8), .int 0, .int 0, .int (-1), .int 0, .int 0, .int 0, .ref (ma 9), .int 0, .int 0, .ref (ma 10), .ref (ma 11), .ref (ma 12), .int 0, .int 0])), (ma 1, .inl (kc 0, 2880, .inl at0))] s.heap.size = A at hD ⊢
  have hA : ∀ q : Nat, s.heap.size ≤ q → A q := fun q h => by rw [← hAe]; exact Or.inr h
  have hS : va_S A s.heap s.heap [] := va_S.rf
  have hK := hE.1
  have hP : va_P D vwCl [(ma 0, .inr (11, [.ref (ma 1), .ref (ma 2), .int 0, .long 0, .long 1, .ref (ma 3), .ref (ma 4), .ref (ma 5), .ref (ma 6), .ref (ma 7), .int 0, .int 0, .int 0, .int 0, .int 0, .int 0, .int (-1), .int (-1), .int 0, .int 0, .int 0, .ref (ma 8), .int 0, .int 0, .int (-1), .int 0, .int 0, .int 0, .ref (ma 9), .int 0, .int 0, .ref (ma 10), .ref (ma 11), .ref (ma 12), .int 0, .int 0])), (ma 1, .inl (kc 0, 2880, .inl at0))] s.heap := hP
  have hl := lv_entry ([.ref (ma 0), .int a0, .int a1, .int a2]) (n := 4) (Nat.le_of_ble_eq_true rfl)
  rw [lg_entry_eq]
  generalize (lg_sl ([.ref (ma 0), .int a0, .int a1, .int a2]) ++ List.replicate (4 - (lg_sl ([.ref (ma 0), .int a0, .int a1, .int a2])).length) Slot.unset).toArray = ls at hl ⊢
  have hl : lv_has ls 4 [(0, .ref (ma 0)), (1, .int a0), (2, .int a1), (3, .int a2)] := hl
  refine lv_iload_n hx hb dX12_buy_0 rfl (lv_at hl 1 rfl) ?_
  refine lv_if_lt (tgt := 34) hx hb dX12_buy_1 (by decide) (fun c_1 => ?_) (fun c_1 => ?_)
  · refine lv_aload_n hx hb dX12_buy_34 rfl (lv_at hl 0 rfl) ?_
    refine lv_iconst (v := 1) hx hb dX12_buy_35 (by decide) ?_
    have hPc := hP.sub (ws' := [(ma 0, .inr (11, [.ref (ma 1), .ref (ma 2), .int 0, .long 0, .long 1, .ref (ma 3), .ref (ma 4), .ref (ma 5), .ref (ma 6), .ref (ma 7), .int 0, .int 0, .int 0, .int 0, .int 0, .int 0, .int (-1), .int (-1), .int 0, .int 0, .int 0, .ref (ma 8), .int 0, .int 0, .int (-1), .int 0, .int 0, .int 0, .ref (ma 9), .int 0, .int 0, .ref (ma 10), .ref (ma 11), .ref (ma 12), .int 0, .int 0]))]) [0] rfl
    have hDc := hD.sub (ws' := [(ma 0, .inr (11, [.ref (ma 1), .ref (ma 2), .int 0, .long 0, .long 1, .ref (ma 3), .ref (ma 4), .ref (ma 5), .ref (ma 6), .ref (ma 7), .int 0, .int 0, .int 0, .int 0, .int 0, .int 0, .int (-1), .int (-1), .int 0, .int 0, .int 0, .ref (ma 8), .int 0, .int 0, .int (-1), .int 0, .int 0, .int 0, .ref (ma 9), .int 0, .int 0, .ref (ma 10), .ref (ma 11), .ref (ma 12), .int 0, .int 0]))]) [0] (by decide) rfl
    have hFc := va_free (wc := [(ma 0, .inr (11, [.ref (ma 1), .ref (ma 2), .int 0, .long 0, .long 1, .ref (ma 3), .ref (ma 4), .ref (ma 5), .ref (ma 6), .ref (ma 7), .int 0, .int 0, .int 0, .int 0, .int 0, .int 0, .int (-1), .int (-1), .int 0, .int 0, .int 0, .ref (ma 8), .int 0, .int 0, .int (-1), .int 0, .int 0, .int 0, .ref (ma 9), .int 0, .int 0, .ref (ma 10), .ref (ma 11), .ref (ma 12), .int 0, .int 0]))]) hD hS hA [0] rfl
    refine va_calli (va_runV (As := [.int 1]) (rest := []) ⟨hx, hb, hml, hown, hts⟩ (m_refuse l D kc s.heap.size ma 0 0 1 0 0 0 0 0 0 (-1) (-1) 0 0 0 0 0 (-1) 0 0 0 0 0 0 0 1) (cwV 1 hts gq_buy_72_m_refuse rfl rfl rfl (by decide +kernel) ⟨Nat.le_of_ble_eq_true rfl, Nat.le_of_ble_eq_true rfl⟩) (preV_ok hPc hDc hE (ci := 11) (q0 := 0) rfl rfl) rfl rfl hl.1 rfl (lv_room (Nat.le_of_ble_eq_true rfl)) dX12_buy_36 ⟨Nat.le_of_ble_eq_true rfl, Nat.le_of_ble_eq_true rfl⟩) hS (fun q _ h => hFc q h) hFc (fun r_36_1 u9 t9 H locs ht hvm hw hB hz1 hk1 hS => ?_)
    obtain ⟨hP1, hD1⟩ := hB
    rw [ht] at hP1
    obtain ⟨hP, hD⟩ := va_join (wr := [(ma 1, .inl (kc 0, 2880, .inl at0))]) (w1 := [(ma 0, .inr (11, [.ref (ma 1), .ref (ma 2), .int 1, .long 0, .long 1, .ref (ma 3), .ref (ma 4), .ref (ma 5), .ref (ma 6), .ref (ma 7), .int 0, .int 0, .int 0, .int 0, .int 0, .int 0, .int (-1), .int (-1), .int 0, .int 0, .int 0, .ref (ma 8), .int 0, .int 0, .int (-1), .int 0, .int 0, .int 0, .ref (ma 9), .int 0, .int 0, .ref (ma 10), .ref (ma 11), .ref (ma 12), .int 0, .int 0]))]) hP hD [0] [1] rfl rfl (by decide) (by decide) hk1 hFc hP1 hD1
    have hP : va_P D vwCl [(ma 1, .inl (kc 0, 2880, .inl at0)), (ma 0, .inr (11, [.ref (ma 1), .ref (ma 2), .int 1, .long 0, .long 1, .ref (ma 3), .ref (ma 4), .ref (ma 5), .ref (ma 6), .ref (ma 7), .int 0, .int 0, .int 0, .int 0, .int 0, .int 0, .int (-1), .int (-1), .int 0, .int 0, .int 0, .ref (ma 8), .int 0, .int 0, .int (-1), .int 0, .int 0, .int 0, .ref (ma 9), .int 0, .int 0, .ref (ma 10), .ref (ma 11), .ref (ma 12), .int 0, .int 0]))] H := hP
    have hD : va_D A [(ma 1, .inl (kc 0, 2880, .inl at0)), (ma 0, .inr (11, [.ref (ma 1), .ref (ma 2), .int 1, .long 0, .long 1, .ref (ma 3), .ref (ma 4), .ref (ma 5), .ref (ma 6), .ref (ma 7), .int 0, .int 0, .int 0, .int 0, .int 0, .int 0, .int (-1), .int (-1), .int 0, .int 0, .int 0, .ref (ma 8), .int 0, .int 0, .int (-1), .int 0, .int 0, .int 0, .ref (ma 9), .int 0, .int 0, .ref (ma 10), .ref (ma 11), .ref (ma 12), .int 0, .int 0]))] := hD
    subst hw
    exact W.iret (v := (-1)) hx hb hr (fun t9 ht hW => ⟨⟨(-1), (), rfl, rfl, trivial⟩, hS.F ht⟩) hS.2.2 dX12_buy_39
  · refine lv_iload_n hx hb dX12_buy_4 rfl (lv_at hl 1 rfl) ?_
    refine lv_aload_n hx hb dX12_buy_5 rfl (lv_at hl 0 rfl) ?_
    refine va_get (D := D) (ci := 11) (v := .ref (ma 1)) (C := RX12) (T := TX12) (N := 36) hx hb hts iq_buy_X12 hown hK hP 0 rfl rfl 0 (by decide) (hts (.fieldLink RX12 7 "SaltStreetModel" "at" "[I") (List.mem_of_getElem? (i := 7) rfl)) (fun _ h9 => h9) rfl dX12_buy_6 ?_
    refine lv_iconst (v := 3) hx hb dX12_buy_9 (by decide) ?_
    refine va_iald hx hb hK hP 1 0 (f := at0) rfl rfl (by unfold vp_in; decide) dX12_buy_10 ?_
    refine lv_ci (y := 0) (by decide) ?_
    refine lv_icmp_ge (tgt := 34) hx hb dX12_buy_11 (by decide) (fun _ => ?_) (fun h => absurd (nlt_le (by assumption)) h)
    refine lv_aload_n hx hb dX12_buy_34 rfl (lv_at hl 0 rfl) ?_
    refine lv_iconst (v := 1) hx hb dX12_buy_35 (by decide) ?_
    have hPc := hP.sub (ws' := [(ma 0, .inr (11, [.ref (ma 1), .ref (ma 2), .int 0, .long 0, .long 1, .ref (ma 3), .ref (ma 4), .ref (ma 5), .ref (ma 6), .ref (ma 7), .int 0, .int 0, .int 0, .int 0, .int 0, .int 0, .int (-1), .int (-1), .int 0, .int 0, .int 0, .ref (ma 8), .int 0, .int 0, .int (-1), .int 0, .int 0, .int 0, .ref (ma 9), .int 0, .int 0, .ref (ma 10), .ref (ma 11), .ref (ma 12), .int 0, .int 0]))]) [0] rfl
    have hDc := hD.sub (ws' := [(ma 0, .inr (11, [.ref (ma 1), .ref (ma 2), .int 0, .long 0, .long 1, .ref (ma 3), .ref (ma 4), .ref (ma 5), .ref (ma 6), .ref (ma 7), .int 0, .int 0, .int 0, .int 0, .int 0, .int 0, .int (-1), .int (-1), .int 0, .int 0, .int 0, .ref (ma 8), .int 0, .int 0, .int (-1), .int 0, .int 0, .int 0, .ref (ma 9), .int 0, .int 0, .ref (ma 10), .ref (ma 11), .ref (ma 12), .int 0, .int 0]))]) [0] (by decide) rfl
    have hFc := va_free (wc := [(ma 0, .inr (11, [.ref (ma 1), .ref (ma 2), .int 0, .long 0, .long 1, .ref (ma 3), .ref (ma 4), .ref (ma 5), .ref (ma 6), .ref (ma 7), .int 0, .int 0, .int 0, .int 0, .int 0, .int 0, .int (-1), .int (-1), .int 0, .int 0, .int 0, .ref (ma 8), .int 0, .int 0, .int (-1), .int 0, .int 0, .int 0, .ref (ma 9), .int 0, .int 0, .ref (ma 10), .ref (ma 11), .ref (ma 12), .int 0, .int 0]))]) hD hS hA [0] rfl
    refine va_calli (va_runV (As := [.int 1]) (rest := []) ⟨hx, hb, hml, hown, hts⟩ (m_refuse l D kc s.heap.size ma 0 0 1 0 0 0 0 0 0 (-1) (-1) 0 0 0 0 0 (-1) 0 0 0 0 0 0 0 1) (cwV 1 hts gq_buy_72_m_refuse rfl rfl rfl (by decide +kernel) ⟨Nat.le_of_ble_eq_true rfl, Nat.le_of_ble_eq_true rfl⟩) (preV_ok hPc hDc hE (ci := 11) (q0 := 0) rfl rfl) rfl rfl hl.1 rfl (lv_room (Nat.le_of_ble_eq_true rfl)) dX12_buy_36 ⟨Nat.le_of_ble_eq_true rfl, Nat.le_of_ble_eq_true rfl⟩) hS (fun q _ h => hFc q h) hFc (fun r_36_1 u9 t9 H locs ht hvm hw hB hz1 hk1 hS => ?_)
    obtain ⟨hP1, hD1⟩ := hB
    rw [ht] at hP1
    obtain ⟨hP, hD⟩ := va_join (wr := [(ma 1, .inl (kc 0, 2880, .inl at0))]) (w1 := [(ma 0, .inr (11, [.ref (ma 1), .ref (ma 2), .int 1, .long 0, .long 1, .ref (ma 3), .ref (ma 4), .ref (ma 5), .ref (ma 6), .ref (ma 7), .int 0, .int 0, .int 0, .int 0, .int 0, .int 0, .int (-1), .int (-1), .int 0, .int 0, .int 0, .ref (ma 8), .int 0, .int 0, .int (-1), .int 0, .int 0, .int 0, .ref (ma 9), .int 0, .int 0, .ref (ma 10), .ref (ma 11), .ref (ma 12), .int 0, .int 0]))]) hP hD [0] [1] rfl rfl (by decide) (by decide) hk1 hFc hP1 hD1
    have hP : va_P D vwCl [(ma 1, .inl (kc 0, 2880, .inl at0)), (ma 0, .inr (11, [.ref (ma 1), .ref (ma 2), .int 1, .long 0, .long 1, .ref (ma 3), .ref (ma 4), .ref (ma 5), .ref (ma 6), .ref (ma 7), .int 0, .int 0, .int 0, .int 0, .int 0, .int 0, .int (-1), .int (-1), .int 0, .int 0, .int 0, .ref (ma 8), .int 0, .int 0, .int (-1), .int 0, .int 0, .int 0, .ref (ma 9), .int 0, .int 0, .ref (ma 10), .ref (ma 11), .ref (ma 12), .int 0, .int 0]))] H := hP
    have hD : va_D A [(ma 1, .inl (kc 0, 2880, .inl at0)), (ma 0, .inr (11, [.ref (ma 1), .ref (ma 2), .int 1, .long 0, .long 1, .ref (ma 3), .ref (ma 4), .ref (ma 5), .ref (ma 6), .ref (ma 7), .int 0, .int 0, .int 0, .int 0, .int 0, .int 0, .int (-1), .int (-1), .int 0, .int 0, .int 0, .ref (ma 8), .int 0, .int 0, .int (-1), .int 0, .int 0, .int 0, .ref (ma 9), .int 0, .int 0, .ref (ma 10), .ref (ma 11), .ref (ma 12), .int 0, .int 0]))] := hD
    subst hw
    exact W.iret (v := (-1)) hx hb hr (fun t9 ht hW => ⟨⟨(-1), (), rfl, rfl, trivial⟩, hS.F ht⟩) hS.2.2 dX12_buy_39
theorem dX12_found_0 : decode cX12_found 0 = .ok (.iload_n 2, 1) := by decide +kernel
theorem dX12_found_1 : decode cX12_found 1 = .ok (.i2l, 1) := by decide +kernel
theorem dX12_found_2 : decode cX12_found 2 = .ok (.lconst 1, 1) := by decide +kernel
theorem dX12_found_3 : decode cX12_found 3 = .ok (.ldc2_w 384, 3) := by decide +kernel
theorem dX12_found_6 : decode cX12_found 6 = .ok (.invokestatic 298, 3) := by decide +kernel
theorem dX12_found_9 : decode cX12_found 9 = .ok (.ifCond .ne 7, 3) := by decide +kernel
theorem dX12_found_16 : decode cX12_found 16 = .ok (.aload_n 0, 1) := by decide +kernel
theorem dX12_found_17 : decode cX12_found 17 = .ok (.iload_n 1, 1) := by decide +kernel
theorem dX12_found_18 : decode cX12_found 18 = .ok (.invokevirtual 263, 3) := by decide +kernel
theorem dX12_found_21 : decode cX12_found 21 = .ok (.istore_n 3, 1) := by decide +kernel
theorem dX12_found_22 : decode cX12_found 22 = .ok (.iload_n 3, 1) := by decide +kernel
theorem dX12_found_23 : decode cX12_found 23 = .ok (.ifCond .le 9, 3) := by decide +kernel
theorem dX12_found_26 : decode cX12_found 26 = .ok (.aload_n 0, 1) := by decide +kernel
theorem dX12_found_27 : decode cX12_found 27 = .ok (.iload_n 3, 1) := by decide +kernel
theorem dX12_found_28 : decode cX12_found 28 = .ok (.invokevirtual 79, 3) := by decide +kernel
theorem dX12_found_31 : decode cX12_found 31 = .ok (.ireturn, 1) := by decide +kernel
theorem dX12_found_12 : decode cX12_found 12 = .ok (.iconst 1, 1) := by decide +kernel
theorem dX12_found_13 : decode cX12_found 13 = .ok (.goto 8, 3) := by decide +kernel
def vdq_found : List Cond := [.code yX12_found cX12_found 6 (some .boolean), .constantLong RX12 384 (4), .methodLink RX12 298 yX12_isFrom, .code yX12_isFrom cX12_isFrom 6 (some .boolean), .static yX12_isFrom, .initialized RX12, .methodLink RX12 263 yX12_wrongStep, .code yX12_wrongStep cX12_wrongStep 2 (some .int), .methodLink RX12 251 yX12_isHouse, .code yX12_isHouse cX12_isHouse 2 (some .boolean), .fieldLink RX12 7 "SaltStreetModel" "at" "[I", .instanceMethod yX12_isHouse, .selects RX12 yX12_isHouse yX12_isHouse, .instanceMethod yX12_wrongStep, .selects RX12 yX12_wrongStep yX12_wrongStep, .methodLink RX12 79 yX12_is, .code yX12_is cX12_is 2 (some .boolean), .fieldLink RX12 66 "SaltStreetModel" "status" "I", .instanceMethod yX12_is, .selects RX12 yX12_is yX12_is]
def vq_found : List Cond := vdq_found ++ (wsX120 ++ ([] : List Cond))
theorem iq_found_X12 : ∀ w ∈ wsX120, w ∈ vq_found := fun _ h => List.mem_append_right _ (List.mem_append_left _ h)
set_option maxRecDepth 20000 in
theorem gq_found_298_m_isFrom : GoodIn vq_found (va_wsS RX12 298 yX12_isFrom vm_isFrom) := (goodIn_app (goodIn_r _ [2, 4, 5] rfl (by decide +kernel)) (goodIn_app (goodIn_r vdm_isFrom [3] rfl (by decide +kernel)) goodIn_nil))
set_option maxRecDepth 20000 in
theorem gq_found_263_m_wrongStep : GoodIn vq_found (wsV RX12 263 RX12 yX12_wrongStep vm_wrongStep) := (goodIn_app (goodIn_r _ [6, 13, 14, 5] rfl (by decide +kernel)) (goodIn_app (goodIn_r vdm_wrongStep [7, 8, 9, 10, 11, 12, 5] rfl (by decide +kernel)) (goodIn_app (goodIn_sub iq_found_X12 gdX12) goodIn_nil)))
set_option maxRecDepth 20000 in
theorem gq_found_79_m_is : GoodIn vq_found (wsV RX12 79 RX12 yX12_is vm_is) := (goodIn_app (goodIn_r _ [15, 18, 19, 5] rfl (by decide +kernel)) (goodIn_app (goodIn_r vdm_is [16, 17] rfl (by decide +kernel)) (goodIn_app (goodIn_sub iq_found_X12 gdX12) goodIn_nil)))
set_option maxHeartbeats 4000000 in
set_option maxRecDepth 100000 in
theorem q_found (l : Launch) (D : va_G) (kc : Nat → ClassId) (sz : Nat) (ma : Nat → Nat) (a0 : Int32) (a1 : Int32) : Met l yX12_found vq_found ({ frames := 2, cells := 0, slots := 0, locals := 42 }) (va_Pc [.ref (ma 0), .int a0, .int a1] (wPre D kc [(ma 0, .inr (11, [.ref (ma 1), .ref (ma 2), .int 0, .long 0, .long 1, .ref (ma 3), .ref (ma 4), .ref (ma 5), .ref (ma 6), .ref (ma 7), .int 0, .int 0, .int 0, .int 0, .int 0, .int 0, .int (-1), .int (-1), .int 0, .int 0, .int 0, .ref (ma 8), .int 0, .int 0, .int (-1), .int 0, .int 0, .int 0, .ref (ma 9), .int 0, .int 0, .ref (ma 10), .ref (ma 11), .ref (ma 12), .int 0, .int 0])), (ma 1, .inl (kc 0, 2880, .inl at0))] sz)) (va_Qi (fun (r : Int32) (_ : Unit) => r = 0) wAny (va_A [(ma 0, .inr (11, [.ref (ma 1), .ref (ma 2), .int 0, .long 0, .long 1, .ref (ma 3), .ref (ma 4), .ref (ma 5), .ref (ma 6), .ref (ma 7), .int 0, .int 0, .int 0, .int 0, .int 0, .int 0, .int (-1), .int (-1), .int 0, .int 0, .int 0, .ref (ma 8), .int 0, .int 0, .int (-1), .int 0, .int 0, .int 0, .ref (ma 9), .int 0, .int 0, .ref (ma 10), .ref (ma 11), .ref (ma 12), .int 0, .int 0])), (ma 1, .inl (kc 0, 2880, .inl at0))] sz)) 0 0 (va_A [(ma 0, .inr (11, [.ref (ma 1), .ref (ma 2), .int 0, .long 0, .long 1, .ref (ma 3), .ref (ma 4), .ref (ma 5), .ref (ma 6), .ref (ma 7), .int 0, .int 0, .int 0, .int 0, .int 0, .int 0, .int (-1), .int (-1), .int 0, .int 0, .int 0, .ref (ma 8), .int 0, .int 0, .int (-1), .int 0, .int 0, .int 0, .ref (ma 9), .int 0, .int 0, .ref (ma 10), .ref (ma 11), .ref (ma 12), .int 0, .int 0])), (ma 1, .inl (kc 0, 2880, .inl at0))] sz) := by
  refine Met.ofW (cc := cX12_found) (maxL := 6) (ret := (some .boolean)) (by decide) rfl ?_
  intro p e s m args below meth c s₁ B hml hv
  obtain ⟨rfl, hsz, hP, hE, hD0⟩ := hv
  have hx := B.exec
  have hb := B.bytes
  have hr := B.returns
  have hts := atoms_spec (ws := vq_found) B.pre
  have hown : s.vm.findClass RX12 = some m.cls := findClass_of_methodNamed B.named
  have hlocks := B.notSynchronized
  subst hsz
  have hD := hD0.self (sz := s.heap.size)
  generalize hAe : va_A [(ma 0, .inr (11, [.ref (ma 1), .ref (ma 2), .int 0, .long 0, .long 1, .ref (ma 3), .ref (ma 4), .ref (ma 5), .ref (ma 6), .ref (ma 7), .int 0, .int 0, .int 0, .int 0, .int 0, .int 0, .int (-1), .int (-1), .int 0, .int 0, .int 0, .ref (ma 8), .int 0, .int 0, .int (-1), .int 0, .int 0, .int 0, .ref (ma 9), .int 0, .int 0, .ref (ma 10), .ref (ma 11), .ref (ma 12), .int 0, .int 0])), (ma 1, .inl (kc 0, 2880, .inl at0))] s.heap.size = A at hD ⊢
  have hA : ∀ q : Nat, s.heap.size ≤ q → A q := fun q h => by rw [← hAe]; exact Or.inr h
  have hS : va_S A s.heap s.heap [] := va_S.rf
  have hK := hE.1
  have hP : va_P D vwCl [(ma 0, .inr (11, [.ref (ma 1), .ref (ma 2), .int 0, .long 0, .long 1, .ref (ma 3), .ref (ma 4), .ref (ma 5), .ref (ma 6), .ref (ma 7), .int 0, .int 0, .int 0, .int 0, .int 0, .int 0, .int (-1), .int (-1), .int 0, .int 0, .int 0, .ref (ma 8), .int 0, .int 0, .int (-1), .int 0, .int 0, .int 0, .ref (ma 9), .int 0, .int 0, .ref (ma 10), .ref (ma 11), .ref (ma 12), .int 0, .int 0])), (ma 1, .inl (kc 0, 2880, .inl at0))] s.heap := hP
  have hl := lv_entry ([.ref (ma 0), .int a0, .int a1]) (n := 6) (Nat.le_of_ble_eq_true rfl)
  rw [lg_entry_eq]
  generalize (lg_sl ([.ref (ma 0), .int a0, .int a1]) ++ List.replicate (6 - (lg_sl ([.ref (ma 0), .int a0, .int a1])).length) Slot.unset).toArray = ls at hl ⊢
  have hl : lv_has ls 6 [(0, .ref (ma 0)), (1, .int a0), (2, .int a1)] := hl
  refine lv_iload_n hx hb dX12_found_0 rfl (lv_at hl 2 rfl) ?_
  refine lv_i2l (v := (a1.toInt64)) hx hb dX12_found_1 rfl ?_
  refine lv_lconst (v := 1) hx hb dX12_found_2 (by decide) ?_
  refine lv_ldc2 (v := 4) hx hb hown (hts (.constantLong RX12 384 (4)) (List.mem_of_getElem? (i := 1) rfl)) dX12_found_3 ?_
  have hPc := hP.sub (ws' := []) [] rfl
  have hDc := hD.sub (ws' := []) [] (by decide) rfl
  have hFc := va_free (wc := []) hD hS hA [] rfl
  refine va_calli (va_runS (As := [.long (a1.toInt64), .long 1, .long 4]) (rest := []) ⟨hx, hb, hml, hown, hts⟩ (m_isFrom l D kc s.heap.size (a1.toInt64) 1 4) (va_cwS 3 hts gq_found_298_m_isFrom rfl rfl rfl (by decide +kernel) ⟨Nat.le_of_ble_eq_true rfl, Nat.le_of_ble_eq_true rfl⟩) (preS_ok hPc hDc hE) rfl rfl hl.1 rfl (lv_room (Nat.le_of_ble_eq_true rfl)) dX12_found_6 ⟨Nat.le_of_ble_eq_true rfl, Nat.le_of_ble_eq_true rfl⟩) hS (fun q _ h => hFc q h) hFc (fun r_6 u9 t9 H locs ht hvm hw hB hz1 hk1 hS => ?_)
  obtain ⟨hP1, hD1⟩ := hB
  rw [ht] at hP1
  obtain ⟨hP, hD⟩ := va_join (wr := [(ma 0, .inr (11, [.ref (ma 1), .ref (ma 2), .int 0, .long 0, .long 1, .ref (ma 3), .ref (ma 4), .ref (ma 5), .ref (ma 6), .ref (ma 7), .int 0, .int 0, .int 0, .int 0, .int 0, .int 0, .int (-1), .int (-1), .int 0, .int 0, .int 0, .ref (ma 8), .int 0, .int 0, .int (-1), .int 0, .int 0, .int 0, .ref (ma 9), .int 0, .int 0, .ref (ma 10), .ref (ma 11), .ref (ma 12), .int 0, .int 0])), (ma 1, .inl (kc 0, 2880, .inl at0))]) (w1 := []) hP hD [] [0, 1] rfl rfl (by decide) (by decide) hk1 hFc hP1 hD1
  have hP : va_P D vwCl [(ma 0, .inr (11, [.ref (ma 1), .ref (ma 2), .int 0, .long 0, .long 1, .ref (ma 3), .ref (ma 4), .ref (ma 5), .ref (ma 6), .ref (ma 7), .int 0, .int 0, .int 0, .int 0, .int 0, .int 0, .int (-1), .int (-1), .int 0, .int 0, .int 0, .ref (ma 8), .int 0, .int 0, .int (-1), .int 0, .int 0, .int 0, .ref (ma 9), .int 0, .int 0, .ref (ma 10), .ref (ma 11), .ref (ma 12), .int 0, .int 0])), (ma 1, .inl (kc 0, 2880, .inl at0))] H := hP
  have hD : va_D A [(ma 0, .inr (11, [.ref (ma 1), .ref (ma 2), .int 0, .long 0, .long 1, .ref (ma 3), .ref (ma 4), .ref (ma 5), .ref (ma 6), .ref (ma 7), .int 0, .int 0, .int 0, .int 0, .int 0, .int 0, .int (-1), .int (-1), .int 0, .int 0, .int 0, .ref (ma 8), .int 0, .int 0, .int (-1), .int 0, .int 0, .int 0, .ref (ma 9), .int 0, .int 0, .ref (ma 10), .ref (ma 11), .ref (ma 12), .int 0, .int 0])), (ma 1, .inl (kc 0, 2880, .inl at0))] := hD
  subst hw
  refine lv_if_ne (tgt := 16) hx hb dX12_found_9 (by decide) (fun c_9 => ?_) (fun c_9 => ?_)
  · refine lv_aload_n hx hb dX12_found_16 rfl (lv_at hl 0 rfl) ?_
    refine lv_iload_n hx hb dX12_found_17 rfl (lv_at hl 1 rfl) ?_
    have hPc := hP.sub (ws' := [(ma 0, .inr (11, [.ref (ma 1), .ref (ma 2), .int 0, .long 0, .long 1, .ref (ma 3), .ref (ma 4), .ref (ma 5), .ref (ma 6), .ref (ma 7), .int 0, .int 0, .int 0, .int 0, .int 0, .int 0, .int (-1), .int (-1), .int 0, .int 0, .int 0, .ref (ma 8), .int 0, .int 0, .int (-1), .int 0, .int 0, .int 0, .ref (ma 9), .int 0, .int 0, .ref (ma 10), .ref (ma 11), .ref (ma 12), .int 0, .int 0])), (ma 1, .inl (kc 0, 2880, .inl at0))]) [0, 1] rfl
    have hDc := hD.sub (ws' := [(ma 0, .inr (11, [.ref (ma 1), .ref (ma 2), .int 0, .long 0, .long 1, .ref (ma 3), .ref (ma 4), .ref (ma 5), .ref (ma 6), .ref (ma 7), .int 0, .int 0, .int 0, .int 0, .int 0, .int 0, .int (-1), .int (-1), .int 0, .int 0, .int 0, .ref (ma 8), .int 0, .int 0, .int (-1), .int 0, .int 0, .int 0, .ref (ma 9), .int 0, .int 0, .ref (ma 10), .ref (ma 11), .ref (ma 12), .int 0, .int 0])), (ma 1, .inl (kc 0, 2880, .inl at0))]) [0, 1] (by decide) rfl
    have hFc := va_free (wc := [(ma 0, .inr (11, [.ref (ma 1), .ref (ma 2), .int 0, .long 0, .long 1, .ref (ma 3), .ref (ma 4), .ref (ma 5), .ref (ma 6), .ref (ma 7), .int 0, .int 0, .int 0, .int 0, .int 0, .int 0, .int (-1), .int (-1), .int 0, .int 0, .int 0, .ref (ma 8), .int 0, .int 0, .int (-1), .int 0, .int 0, .int 0, .ref (ma 9), .int 0, .int 0, .ref (ma 10), .ref (ma 11), .ref (ma 12), .int 0, .int 0])), (ma 1, .inl (kc 0, 2880, .inl at0))]) hD hS hA [0, 1] rfl
    refine va_calli (va_runV (As := [.int a0]) (rest := []) ⟨hx, hb, hml, hown, hts⟩ (m_wrongStep l D kc H.size ma a0) (cwV 1 hts gq_found_263_m_wrongStep rfl rfl rfl (by decide +kernel) ⟨Nat.le_of_ble_eq_true rfl, Nat.le_of_ble_eq_true rfl⟩) (preV_ok hPc hDc hE (ci := 11) (q0 := 0) rfl rfl) rfl rfl hl.1 rfl (lv_room (Nat.le_of_ble_eq_true rfl)) dX12_found_18 ⟨Nat.le_of_ble_eq_true rfl, Nat.le_of_ble_eq_true rfl⟩) hS (fun q _ h => hFc q h) hFc (fun r_18_1 u9 t9 H locs ht hvm hw hB hz1 hk1 hS => ?_)
    obtain ⟨hP1, hD1⟩ := hB
    rw [ht] at hP1
    obtain ⟨hP, hD⟩ := va_join (wr := []) (w1 := [(ma 0, .inr (11, [.ref (ma 1), .ref (ma 2), .int 0, .long 0, .long 1, .ref (ma 3), .ref (ma 4), .ref (ma 5), .ref (ma 6), .ref (ma 7), .int 0, .int 0, .int 0, .int 0, .int 0, .int 0, .int (-1), .int (-1), .int 0, .int 0, .int 0, .ref (ma 8), .int 0, .int 0, .int (-1), .int 0, .int 0, .int 0, .ref (ma 9), .int 0, .int 0, .ref (ma 10), .ref (ma 11), .ref (ma 12), .int 0, .int 0])), (ma 1, .inl (kc 0, 2880, .inl at0))]) hP hD [0, 1] [] rfl rfl (by decide) (by decide) hk1 hFc hP1 hD1
    have hP : va_P D vwCl [(ma 0, .inr (11, [.ref (ma 1), .ref (ma 2), .int 0, .long 0, .long 1, .ref (ma 3), .ref (ma 4), .ref (ma 5), .ref (ma 6), .ref (ma 7), .int 0, .int 0, .int 0, .int 0, .int 0, .int 0, .int (-1), .int (-1), .int 0, .int 0, .int 0, .ref (ma 8), .int 0, .int 0, .int (-1), .int 0, .int 0, .int 0, .ref (ma 9), .int 0, .int 0, .ref (ma 10), .ref (ma 11), .ref (ma 12), .int 0, .int 0])), (ma 1, .inl (kc 0, 2880, .inl at0))] H := hP
    have hD : va_D A [(ma 0, .inr (11, [.ref (ma 1), .ref (ma 2), .int 0, .long 0, .long 1, .ref (ma 3), .ref (ma 4), .ref (ma 5), .ref (ma 6), .ref (ma 7), .int 0, .int 0, .int 0, .int 0, .int 0, .int 0, .int (-1), .int (-1), .int 0, .int 0, .int 0, .ref (ma 8), .int 0, .int 0, .int (-1), .int 0, .int 0, .int 0, .ref (ma 9), .int 0, .int 0, .ref (ma 10), .ref (ma 11), .ref (ma 12), .int 0, .int 0])), (ma 1, .inl (kc 0, 2880, .inl at0))] := hD
    subst hw
    refine lv_istore_n (lv' := [(3, .int 1), (0, .ref (ma 0)), (1, .int a0), (2, .int a1)]) hx hb dX12_found_21 rfl hl (by decide) rfl (fun ls hl => ?_)
    refine lv_iload_n hx hb dX12_found_22 rfl (lv_at hl 0 rfl) ?_
    refine lv_if_le (tgt := 32) hx hb dX12_found_23 (by decide) (fun h => absurd h (by decide)) (fun _ => ?_)
    refine lv_aload_n hx hb dX12_found_26 rfl (lv_at hl 1 rfl) ?_
    refine lv_iload_n hx hb dX12_found_27 rfl (lv_at hl 0 rfl) ?_
    have hPc := hP.sub (ws' := [(ma 0, .inr (11, [.ref (ma 1), .ref (ma 2), .int 0, .long 0, .long 1, .ref (ma 3), .ref (ma 4), .ref (ma 5), .ref (ma 6), .ref (ma 7), .int 0, .int 0, .int 0, .int 0, .int 0, .int 0, .int (-1), .int (-1), .int 0, .int 0, .int 0, .ref (ma 8), .int 0, .int 0, .int (-1), .int 0, .int 0, .int 0, .ref (ma 9), .int 0, .int 0, .ref (ma 10), .ref (ma 11), .ref (ma 12), .int 0, .int 0]))]) [0] rfl
    have hDc := hD.sub (ws' := [(ma 0, .inr (11, [.ref (ma 1), .ref (ma 2), .int 0, .long 0, .long 1, .ref (ma 3), .ref (ma 4), .ref (ma 5), .ref (ma 6), .ref (ma 7), .int 0, .int 0, .int 0, .int 0, .int 0, .int 0, .int (-1), .int (-1), .int 0, .int 0, .int 0, .ref (ma 8), .int 0, .int 0, .int (-1), .int 0, .int 0, .int 0, .ref (ma 9), .int 0, .int 0, .ref (ma 10), .ref (ma 11), .ref (ma 12), .int 0, .int 0]))]) [0] (by decide) rfl
    have hFc := va_free (wc := [(ma 0, .inr (11, [.ref (ma 1), .ref (ma 2), .int 0, .long 0, .long 1, .ref (ma 3), .ref (ma 4), .ref (ma 5), .ref (ma 6), .ref (ma 7), .int 0, .int 0, .int 0, .int 0, .int 0, .int 0, .int (-1), .int (-1), .int 0, .int 0, .int 0, .ref (ma 8), .int 0, .int 0, .int (-1), .int 0, .int 0, .int 0, .ref (ma 9), .int 0, .int 0, .ref (ma 10), .ref (ma 11), .ref (ma 12), .int 0, .int 0]))]) hD hS hA [0] rfl
    refine va_calli (va_runV (As := [.int 1]) (rest := []) ⟨hx, hb, hml, hown, hts⟩ (m_is l D kc H.size ma 0 0 1 0 0 0 0 0 0 (-1) (-1) 0 0 0 0 0 (-1) 0 0 0 0 0 0 0 1) (cwV 1 hts gq_found_79_m_is rfl rfl rfl (by decide +kernel) ⟨Nat.le_of_ble_eq_true rfl, Nat.le_of_ble_eq_true rfl⟩) (preV_ok hPc hDc hE (ci := 11) (q0 := 0) rfl rfl) rfl rfl hl.1 rfl (lv_room (Nat.le_of_ble_eq_true rfl)) dX12_found_28 ⟨Nat.le_of_ble_eq_true rfl, Nat.le_of_ble_eq_true rfl⟩) hS (fun q _ h => hFc q h) hFc (fun r_28_1 u9 t9 H locs ht hvm hw hB hz1 hk1 hS => ?_)
    obtain ⟨hP1, hD1⟩ := hB
    rw [ht] at hP1
    obtain ⟨hP, hD⟩ := va_join (wr := [(ma 1, .inl (kc 0, 2880, .inl at0))]) (w1 := [(ma 0, .inr (11, [.ref (ma 1), .ref (ma 2), .int 1, .long 0, .long 1, .ref (ma 3), .ref (ma 4), .ref (ma 5), .ref (ma 6), .ref (ma 7), .int 0, .int 0, .int 0, .int 0, .int 0, .int 0, .int (-1), .int (-1), .int 0, .int 0, .int 0, .ref (ma 8), .int 0, .int 0, .int (-1), .int 0, .int 0, .int 0, .ref (ma 9), .int 0, .int 0, .ref (ma 10), .ref (ma 11), .ref (ma 12), .int 0, .int 0]))]) hP hD [0] [1] rfl rfl (by decide) (by decide) hk1 hFc hP1 hD1
    have hP : va_P D vwCl [(ma 1, .inl (kc 0, 2880, .inl at0)), (ma 0, .inr (11, [.ref (ma 1), .ref (ma 2), .int 1, .long 0, .long 1, .ref (ma 3), .ref (ma 4), .ref (ma 5), .ref (ma 6), .ref (ma 7), .int 0, .int 0, .int 0, .int 0, .int 0, .int 0, .int (-1), .int (-1), .int 0, .int 0, .int 0, .ref (ma 8), .int 0, .int 0, .int (-1), .int 0, .int 0, .int 0, .ref (ma 9), .int 0, .int 0, .ref (ma 10), .ref (ma 11), .ref (ma 12), .int 0, .int 0]))] H := hP
    have hD : va_D A [(ma 1, .inl (kc 0, 2880, .inl at0)), (ma 0, .inr (11, [.ref (ma 1), .ref (ma 2), .int 1, .long 0, .long 1, .ref (ma 3), .ref (ma 4), .ref (ma 5), .ref (ma 6), .ref (ma 7), .int 0, .int 0, .int 0, .int 0, .int 0, .int 0, .int (-1), .int (-1), .int 0, .int 0, .int 0, .ref (ma 8), .int 0, .int 0, .int (-1), .int 0, .int 0, .int 0, .ref (ma 9), .int 0, .int 0, .ref (ma 10), .ref (ma 11), .ref (ma 12), .int 0, .int 0]))] := hD
    subst hw
    refine lv_ci (y := 0) (by decide) ?_
    exact W.zret (v := 0) hx hb hr rfl (fun t9 ht hW => ⟨⟨0, (), rfl, rfl, trivial⟩, hS.F ht⟩) hS.2.2 dX12_found_31
  · refine lv_iconst (v := 1) hx hb dX12_found_12 (by decide) ?_
    refine lv_goto (tgt := 21) hx hb dX12_found_13 (by decide) ?_
    refine lv_istore_n (lv' := [(3, .int 1), (0, .ref (ma 0)), (1, .int a0), (2, .int a1)]) hx hb dX12_found_21 rfl hl (by decide) rfl (fun ls hl => ?_)
    refine lv_iload_n hx hb dX12_found_22 rfl (lv_at hl 0 rfl) ?_
    refine lv_if_le (tgt := 32) hx hb dX12_found_23 (by decide) (fun h => absurd h (by decide)) (fun _ => ?_)
    refine lv_aload_n hx hb dX12_found_26 rfl (lv_at hl 1 rfl) ?_
    refine lv_iload_n hx hb dX12_found_27 rfl (lv_at hl 0 rfl) ?_
    have hPc := hP.sub (ws' := [(ma 0, .inr (11, [.ref (ma 1), .ref (ma 2), .int 0, .long 0, .long 1, .ref (ma 3), .ref (ma 4), .ref (ma 5), .ref (ma 6), .ref (ma 7), .int 0, .int 0, .int 0, .int 0, .int 0, .int 0, .int (-1), .int (-1), .int 0, .int 0, .int 0, .ref (ma 8), .int 0, .int 0, .int (-1), .int 0, .int 0, .int 0, .ref (ma 9), .int 0, .int 0, .ref (ma 10), .ref (ma 11), .ref (ma 12), .int 0, .int 0]))]) [0] rfl
    have hDc := hD.sub (ws' := [(ma 0, .inr (11, [.ref (ma 1), .ref (ma 2), .int 0, .long 0, .long 1, .ref (ma 3), .ref (ma 4), .ref (ma 5), .ref (ma 6), .ref (ma 7), .int 0, .int 0, .int 0, .int 0, .int 0, .int 0, .int (-1), .int (-1), .int 0, .int 0, .int 0, .ref (ma 8), .int 0, .int 0, .int (-1), .int 0, .int 0, .int 0, .ref (ma 9), .int 0, .int 0, .ref (ma 10), .ref (ma 11), .ref (ma 12), .int 0, .int 0]))]) [0] (by decide) rfl
    have hFc := va_free (wc := [(ma 0, .inr (11, [.ref (ma 1), .ref (ma 2), .int 0, .long 0, .long 1, .ref (ma 3), .ref (ma 4), .ref (ma 5), .ref (ma 6), .ref (ma 7), .int 0, .int 0, .int 0, .int 0, .int 0, .int 0, .int (-1), .int (-1), .int 0, .int 0, .int 0, .ref (ma 8), .int 0, .int 0, .int (-1), .int 0, .int 0, .int 0, .ref (ma 9), .int 0, .int 0, .ref (ma 10), .ref (ma 11), .ref (ma 12), .int 0, .int 0]))]) hD hS hA [0] rfl
    refine va_calli (va_runV (As := [.int 1]) (rest := []) ⟨hx, hb, hml, hown, hts⟩ (m_is l D kc H.size ma 0 0 1 0 0 0 0 0 0 (-1) (-1) 0 0 0 0 0 (-1) 0 0 0 0 0 0 0 1) (cwV 1 hts gq_found_79_m_is rfl rfl rfl (by decide +kernel) ⟨Nat.le_of_ble_eq_true rfl, Nat.le_of_ble_eq_true rfl⟩) (preV_ok hPc hDc hE (ci := 11) (q0 := 0) rfl rfl) rfl rfl hl.1 rfl (lv_room (Nat.le_of_ble_eq_true rfl)) dX12_found_28 ⟨Nat.le_of_ble_eq_true rfl, Nat.le_of_ble_eq_true rfl⟩) hS (fun q _ h => hFc q h) hFc (fun r_28_1 u9 t9 H locs ht hvm hw hB hz1 hk1 hS => ?_)
    obtain ⟨hP1, hD1⟩ := hB
    rw [ht] at hP1
    obtain ⟨hP, hD⟩ := va_join (wr := [(ma 1, .inl (kc 0, 2880, .inl at0))]) (w1 := [(ma 0, .inr (11, [.ref (ma 1), .ref (ma 2), .int 1, .long 0, .long 1, .ref (ma 3), .ref (ma 4), .ref (ma 5), .ref (ma 6), .ref (ma 7), .int 0, .int 0, .int 0, .int 0, .int 0, .int 0, .int (-1), .int (-1), .int 0, .int 0, .int 0, .ref (ma 8), .int 0, .int 0, .int (-1), .int 0, .int 0, .int 0, .ref (ma 9), .int 0, .int 0, .ref (ma 10), .ref (ma 11), .ref (ma 12), .int 0, .int 0]))]) hP hD [0] [1] rfl rfl (by decide) (by decide) hk1 hFc hP1 hD1
    have hP : va_P D vwCl [(ma 1, .inl (kc 0, 2880, .inl at0)), (ma 0, .inr (11, [.ref (ma 1), .ref (ma 2), .int 1, .long 0, .long 1, .ref (ma 3), .ref (ma 4), .ref (ma 5), .ref (ma 6), .ref (ma 7), .int 0, .int 0, .int 0, .int 0, .int 0, .int 0, .int (-1), .int (-1), .int 0, .int 0, .int 0, .ref (ma 8), .int 0, .int 0, .int (-1), .int 0, .int 0, .int 0, .ref (ma 9), .int 0, .int 0, .ref (ma 10), .ref (ma 11), .ref (ma 12), .int 0, .int 0]))] H := hP
    have hD : va_D A [(ma 1, .inl (kc 0, 2880, .inl at0)), (ma 0, .inr (11, [.ref (ma 1), .ref (ma 2), .int 1, .long 0, .long 1, .ref (ma 3), .ref (ma 4), .ref (ma 5), .ref (ma 6), .ref (ma 7), .int 0, .int 0, .int 0, .int 0, .int 0, .int 0, .int (-1), .int (-1), .int 0, .int 0, .int 0, .ref (ma 8), .int 0, .int 0, .int (-1), .int 0, .int 0, .int 0, .ref (ma 9), .int 0, .int 0, .ref (ma 10), .ref (ma 11), .ref (ma 12), .int 0, .int 0]))] := hD
    subst hw
    refine lv_ci (y := 0) (by decide) ?_
    exact W.zret (v := 0) hx hb hr rfl (fun t9 ht hW => ⟨⟨0, (), rfl, rfl, trivial⟩, hS.F ht⟩) hS.2.2 dX12_found_31
theorem dX12_peace_0 : decode cX12_peace 0 = .ok (.aload_n 0, 1) := by decide +kernel
theorem dX12_peace_1 : decode cX12_peace 1 = .ok (.aload_n 0, 1) := by decide +kernel
theorem dX12_peace_2 : decode cX12_peace 2 = .ok (.iconst 0, 1) := by decide +kernel
theorem dX12_peace_3 : decode cX12_peace 3 = .ok (.invokevirtual 293, 3) := by decide +kernel
theorem dX12_peace_6 : decode cX12_peace 6 = .ok (.invokevirtual 76, 3) := by decide +kernel
theorem dX12_peace_9 : decode cX12_peace 9 = .ok (.ireturn, 1) := by decide +kernel
def vdq_peace : List Cond := [.code yX12_peace cX12_peace 1 (some .int), .methodLink RX12 293 yX12_setOf, .code yX12_setOf cX12_setOf 5 (some .int), .fieldLink RX12 7 "SaltStreetModel" "at" "[I", .instanceMethod yX12_setOf, .selects RX12 yX12_setOf yX12_setOf, .initialized RX12, .methodLink RX12 76 yX12_gives, .code yX12_gives cX12_gives 2 (some .int), .fieldLink RX12 66 "SaltStreetModel" "status" "I", .instanceMethod yX12_gives, .selects RX12 yX12_gives yX12_gives]
def vq_peace : List Cond := vdq_peace ++ (wsX120 ++ ([] : List Cond))
theorem iq_peace_X12 : ∀ w ∈ wsX120, w ∈ vq_peace := fun _ h => List.mem_append_right _ (List.mem_append_left _ h)
set_option maxRecDepth 20000 in
theorem gq_peace_293_m_setOf : GoodIn vq_peace (wsV RX12 293 RX12 yX12_setOf vm_setOf) := (goodIn_app (goodIn_r _ [1, 4, 5, 6] rfl (by decide +kernel)) (goodIn_app (goodIn_r vdm_setOf [2, 3] rfl (by decide +kernel)) (goodIn_app (goodIn_sub iq_peace_X12 gdX12) goodIn_nil)))
set_option maxRecDepth 20000 in
theorem gq_peace_76_m_gives : GoodIn vq_peace (wsV RX12 76 RX12 yX12_gives vm_gives) := (goodIn_app (goodIn_r _ [7, 10, 11, 6] rfl (by decide +kernel)) (goodIn_app (goodIn_r vdm_gives [8, 9] rfl (by decide +kernel)) (goodIn_app (goodIn_sub iq_peace_X12 gdX12) goodIn_nil)))
set_option maxHeartbeats 4000000 in
set_option maxRecDepth 100000 in
theorem q_peace (l : Launch) (D : va_G) (kc : Nat → ClassId) (sz : Nat) (ma : Nat → Nat) : Met l yX12_peace vq_peace ({ frames := 1, cells := 0, slots := 0, locals := 24 }) (va_Pc [.ref (ma 0)] (wPre D kc [(ma 0, .inr (11, [.ref (ma 1), .ref (ma 2), .int 0, .long 0, .long 1, .ref (ma 3), .ref (ma 4), .ref (ma 5), .ref (ma 6), .ref (ma 7), .int 0, .int 0, .int 0, .int 0, .int 0, .int 0, .int (-1), .int (-1), .int 0, .int 0, .int 0, .ref (ma 8), .int 0, .int 0, .int (-1), .int 0, .int 0, .int 0, .ref (ma 9), .int 0, .int 0, .ref (ma 10), .ref (ma 11), .ref (ma 12), .int 0, .int 0])), (ma 1, .inl (kc 0, 2880, .inl at0))] sz)) (va_Qi (fun (r : Int32) (_ : Unit) => r = 0) wAny (va_A [(ma 0, .inr (11, [.ref (ma 1), .ref (ma 2), .int 0, .long 0, .long 1, .ref (ma 3), .ref (ma 4), .ref (ma 5), .ref (ma 6), .ref (ma 7), .int 0, .int 0, .int 0, .int 0, .int 0, .int 0, .int (-1), .int (-1), .int 0, .int 0, .int 0, .ref (ma 8), .int 0, .int 0, .int (-1), .int 0, .int 0, .int 0, .ref (ma 9), .int 0, .int 0, .ref (ma 10), .ref (ma 11), .ref (ma 12), .int 0, .int 0])), (ma 1, .inl (kc 0, 2880, .inl at0))] sz)) 0 0 (va_A [(ma 0, .inr (11, [.ref (ma 1), .ref (ma 2), .int 0, .long 0, .long 1, .ref (ma 3), .ref (ma 4), .ref (ma 5), .ref (ma 6), .ref (ma 7), .int 0, .int 0, .int 0, .int 0, .int 0, .int 0, .int (-1), .int (-1), .int 0, .int 0, .int 0, .ref (ma 8), .int 0, .int 0, .int (-1), .int 0, .int 0, .int 0, .ref (ma 9), .int 0, .int 0, .ref (ma 10), .ref (ma 11), .ref (ma 12), .int 0, .int 0])), (ma 1, .inl (kc 0, 2880, .inl at0))] sz) := by
  refine Met.ofW (cc := cX12_peace) (maxL := 1) (ret := (some .int)) (by decide) rfl ?_
  intro p e s m args below meth c s₁ B hml hv
  obtain ⟨rfl, hsz, hP, hE, hD0⟩ := hv
  have hx := B.exec
  have hb := B.bytes
  have hr := B.returns
  have hts := atoms_spec (ws := vq_peace) B.pre
  have hown : s.vm.findClass RX12 = some m.cls := findClass_of_methodNamed B.named
  have hlocks := B.notSynchronized
  subst hsz
  have hD := hD0.self (sz := s.heap.size)
  generalize hAe : va_A [(ma 0, .inr (11, [.ref (ma 1), .ref (ma 2), .int 0, .long 0, .long 1, .ref (ma 3), .ref (ma 4), .ref (ma 5), .ref (ma 6), .ref (ma 7), .int 0, .int 0, .int 0, .int 0, .int 0, .int 0, .int (-1), .int (-1), .int 0, .int 0, .int 0, .ref (ma 8), .int 0, .int 0, .int (-1), .int 0, .int 0, .int 0, .ref (ma 9), .int 0, .int 0, .ref (ma 10), .ref (ma 11), .ref (ma 12), .int 0, .int 0])), (ma 1, .inl (kc 0, 2880, .inl at0))] s.heap.size = A at hD ⊢
  have hA : ∀ q : Nat, s.heap.size ≤ q → A q := fun q h => by rw [← hAe]; exact Or.inr h
  have hS : va_S A s.heap s.heap [] := va_S.rf
  have hK := hE.1
  have hP : va_P D vwCl [(ma 0, .inr (11, [.ref (ma 1), .ref (ma 2), .int 0, .long 0, .long 1, .ref (ma 3), .ref (ma 4), .ref (ma 5), .ref (ma 6), .ref (ma 7), .int 0, .int 0, .int 0, .int 0, .int 0, .int 0, .int (-1), .int (-1), .int 0, .int 0, .int 0, .ref (ma 8), .int 0, .int 0, .int (-1), .int 0, .int 0, .int 0, .ref (ma 9), .int 0, .int 0, .ref (ma 10), .ref (ma 11), .ref (ma 12), .int 0, .int 0])), (ma 1, .inl (kc 0, 2880, .inl at0))] s.heap := hP
  have hl := lv_entry ([.ref (ma 0)]) (n := 1) (Nat.le_of_ble_eq_true rfl)
  rw [lg_entry_eq]
  generalize (lg_sl ([.ref (ma 0)]) ++ List.replicate (1 - (lg_sl ([.ref (ma 0)])).length) Slot.unset).toArray = ls at hl ⊢
  have hl : lv_has ls 1 [(0, .ref (ma 0))] := hl
  refine lv_aload_n hx hb dX12_peace_0 rfl (lv_at hl 0 rfl) ?_
  refine lv_aload_n hx hb dX12_peace_1 rfl (lv_at hl 0 rfl) ?_
  refine lv_iconst (v := 0) hx hb dX12_peace_2 (by decide) ?_
  have hPc := hP.sub (ws' := [(ma 0, .inr (11, [.ref (ma 1), .ref (ma 2), .int 0, .long 0, .long 1, .ref (ma 3), .ref (ma 4), .ref (ma 5), .ref (ma 6), .ref (ma 7), .int 0, .int 0, .int 0, .int 0, .int 0, .int 0, .int (-1), .int (-1), .int 0, .int 0, .int 0, .ref (ma 8), .int 0, .int 0, .int (-1), .int 0, .int 0, .int 0, .ref (ma 9), .int 0, .int 0, .ref (ma 10), .ref (ma 11), .ref (ma 12), .int 0, .int 0])), (ma 1, .inl (kc 0, 2880, .inl at0))]) [0, 1] rfl
  have hDc := hD.sub (ws' := [(ma 0, .inr (11, [.ref (ma 1), .ref (ma 2), .int 0, .long 0, .long 1, .ref (ma 3), .ref (ma 4), .ref (ma 5), .ref (ma 6), .ref (ma 7), .int 0, .int 0, .int 0, .int 0, .int 0, .int 0, .int (-1), .int (-1), .int 0, .int 0, .int 0, .ref (ma 8), .int 0, .int 0, .int (-1), .int 0, .int 0, .int 0, .ref (ma 9), .int 0, .int 0, .ref (ma 10), .ref (ma 11), .ref (ma 12), .int 0, .int 0])), (ma 1, .inl (kc 0, 2880, .inl at0))]) [0, 1] (by decide) rfl
  have hFc := va_free (wc := [(ma 0, .inr (11, [.ref (ma 1), .ref (ma 2), .int 0, .long 0, .long 1, .ref (ma 3), .ref (ma 4), .ref (ma 5), .ref (ma 6), .ref (ma 7), .int 0, .int 0, .int 0, .int 0, .int 0, .int 0, .int (-1), .int (-1), .int 0, .int 0, .int 0, .ref (ma 8), .int 0, .int 0, .int (-1), .int 0, .int 0, .int 0, .ref (ma 9), .int 0, .int 0, .ref (ma 10), .ref (ma 11), .ref (ma 12), .int 0, .int 0])), (ma 1, .inl (kc 0, 2880, .inl at0))]) hD hS hA [0, 1] rfl
  refine va_calli (va_runV (As := [.int 0]) (rest := [.ref (ma 0)]) ⟨hx, hb, hml, hown, hts⟩ (m_setOf l D kc s.heap.size ma 0) (cwV 1 hts gq_peace_293_m_setOf rfl rfl rfl (by decide +kernel) ⟨Nat.le_of_ble_eq_true rfl, Nat.le_of_ble_eq_true rfl⟩) (preV_ok hPc hDc hE (ci := 11) (q0 := 0) rfl rfl) rfl rfl hl.1 rfl (lv_room (Nat.le_of_ble_eq_true rfl)) dX12_peace_3 ⟨Nat.le_of_ble_eq_true rfl, Nat.le_of_ble_eq_true rfl⟩) hS (fun q _ h => hFc q h) hFc (fun r_3 u9 t9 H locs ht hvm hw hB hz1 hk1 hS => ?_)
  obtain ⟨hP1, hD1⟩ := hB
  rw [ht] at hP1
  obtain ⟨hP, hD⟩ := va_join (wr := []) (w1 := [(ma 0, .inr (11, [.ref (ma 1), .ref (ma 2), .int 0, .long 0, .long 1, .ref (ma 3), .ref (ma 4), .ref (ma 5), .ref (ma 6), .ref (ma 7), .int 0, .int 0, .int 0, .int 0, .int 0, .int 0, .int (-1), .int (-1), .int 0, .int 0, .int 0, .ref (ma 8), .int 0, .int 0, .int (-1), .int 0, .int 0, .int 0, .ref (ma 9), .int 0, .int 0, .ref (ma 10), .ref (ma 11), .ref (ma 12), .int 0, .int 0])), (ma 1, .inl (kc 0, 2880, .inl at0))]) hP hD [0, 1] [] rfl rfl (by decide) (by decide) hk1 hFc hP1 hD1
  have hP : va_P D vwCl [(ma 0, .inr (11, [.ref (ma 1), .ref (ma 2), .int 0, .long 0, .long 1, .ref (ma 3), .ref (ma 4), .ref (ma 5), .ref (ma 6), .ref (ma 7), .int 0, .int 0, .int 0, .int 0, .int 0, .int 0, .int (-1), .int (-1), .int 0, .int 0, .int 0, .ref (ma 8), .int 0, .int 0, .int (-1), .int 0, .int 0, .int 0, .ref (ma 9), .int 0, .int 0, .ref (ma 10), .ref (ma 11), .ref (ma 12), .int 0, .int 0])), (ma 1, .inl (kc 0, 2880, .inl at0))] H := hP
  have hD : va_D A [(ma 0, .inr (11, [.ref (ma 1), .ref (ma 2), .int 0, .long 0, .long 1, .ref (ma 3), .ref (ma 4), .ref (ma 5), .ref (ma 6), .ref (ma 7), .int 0, .int 0, .int 0, .int 0, .int 0, .int 0, .int (-1), .int (-1), .int 0, .int 0, .int 0, .ref (ma 8), .int 0, .int 0, .int (-1), .int 0, .int 0, .int 0, .ref (ma 9), .int 0, .int 0, .ref (ma 10), .ref (ma 11), .ref (ma 12), .int 0, .int 0])), (ma 1, .inl (kc 0, 2880, .inl at0))] := hD
  subst hw
  have hPc := hP.sub (ws' := [(ma 0, .inr (11, [.ref (ma 1), .ref (ma 2), .int 0, .long 0, .long 1, .ref (ma 3), .ref (ma 4), .ref (ma 5), .ref (ma 6), .ref (ma 7), .int 0, .int 0, .int 0, .int 0, .int 0, .int 0, .int (-1), .int (-1), .int 0, .int 0, .int 0, .ref (ma 8), .int 0, .int 0, .int (-1), .int 0, .int 0, .int 0, .ref (ma 9), .int 0, .int 0, .ref (ma 10), .ref (ma 11), .ref (ma 12), .int 0, .int 0]))]) [0] rfl
  have hDc := hD.sub (ws' := [(ma 0, .inr (11, [.ref (ma 1), .ref (ma 2), .int 0, .long 0, .long 1, .ref (ma 3), .ref (ma 4), .ref (ma 5), .ref (ma 6), .ref (ma 7), .int 0, .int 0, .int 0, .int 0, .int 0, .int 0, .int (-1), .int (-1), .int 0, .int 0, .int 0, .ref (ma 8), .int 0, .int 0, .int (-1), .int 0, .int 0, .int 0, .ref (ma 9), .int 0, .int 0, .ref (ma 10), .ref (ma 11), .ref (ma 12), .int 0, .int 0]))]) [0] (by decide) rfl
  have hFc := va_free (wc := [(ma 0, .inr (11, [.ref (ma 1), .ref (ma 2), .int 0, .long 0, .long 1, .ref (ma 3), .ref (ma 4), .ref (ma 5), .ref (ma 6), .ref (ma 7), .int 0, .int 0, .int 0, .int 0, .int 0, .int 0, .int (-1), .int (-1), .int 0, .int 0, .int 0, .ref (ma 8), .int 0, .int 0, .int (-1), .int 0, .int 0, .int 0, .ref (ma 9), .int 0, .int 0, .ref (ma 10), .ref (ma 11), .ref (ma 12), .int 0, .int 0]))]) hD hS hA [0] rfl
  refine va_calli (va_runV (As := [.int 0]) (rest := []) ⟨hx, hb, hml, hown, hts⟩ (m_gives l D kc H.size ma 0 0 1 0 0 0 0 0 0 (-1) (-1) 0 0 0 0 0 (-1) 0 0 0 0 0 0 0 0) (cwV 1 hts gq_peace_76_m_gives rfl rfl rfl (by decide +kernel) ⟨Nat.le_of_ble_eq_true rfl, Nat.le_of_ble_eq_true rfl⟩) (preV_ok hPc hDc hE (ci := 11) (q0 := 0) rfl rfl) rfl rfl hl.1 rfl (lv_room (Nat.le_of_ble_eq_true rfl)) dX12_peace_6 ⟨Nat.le_of_ble_eq_true rfl, Nat.le_of_ble_eq_true rfl⟩) hS (fun q _ h => hFc q h) hFc (fun r_6 u9 t9 H locs ht hvm hw hB hz1 hk1 hS => ?_)
  obtain ⟨hP1, hD1⟩ := hB
  rw [ht] at hP1
  obtain ⟨hP, hD⟩ := va_join (wr := [(ma 1, .inl (kc 0, 2880, .inl at0))]) (w1 := [(ma 0, .inr (11, [.ref (ma 1), .ref (ma 2), .int 0, .long 0, .long 1, .ref (ma 3), .ref (ma 4), .ref (ma 5), .ref (ma 6), .ref (ma 7), .int 0, .int 0, .int 0, .int 0, .int 0, .int 0, .int (-1), .int (-1), .int 0, .int 0, .int 0, .ref (ma 8), .int 0, .int 0, .int (-1), .int 0, .int 0, .int 0, .ref (ma 9), .int 0, .int 0, .ref (ma 10), .ref (ma 11), .ref (ma 12), .int 0, .int 0]))]) hP hD [0] [1] rfl rfl (by decide) (by decide) hk1 hFc hP1 hD1
  have hP : va_P D vwCl [(ma 1, .inl (kc 0, 2880, .inl at0)), (ma 0, .inr (11, [.ref (ma 1), .ref (ma 2), .int 0, .long 0, .long 1, .ref (ma 3), .ref (ma 4), .ref (ma 5), .ref (ma 6), .ref (ma 7), .int 0, .int 0, .int 0, .int 0, .int 0, .int 0, .int (-1), .int (-1), .int 0, .int 0, .int 0, .ref (ma 8), .int 0, .int 0, .int (-1), .int 0, .int 0, .int 0, .ref (ma 9), .int 0, .int 0, .ref (ma 10), .ref (ma 11), .ref (ma 12), .int 0, .int 0]))] H := hP
  have hD : va_D A [(ma 1, .inl (kc 0, 2880, .inl at0)), (ma 0, .inr (11, [.ref (ma 1), .ref (ma 2), .int 0, .long 0, .long 1, .ref (ma 3), .ref (ma 4), .ref (ma 5), .ref (ma 6), .ref (ma 7), .int 0, .int 0, .int 0, .int 0, .int 0, .int 0, .int (-1), .int (-1), .int 0, .int 0, .int 0, .ref (ma 8), .int 0, .int 0, .int (-1), .int 0, .int 0, .int 0, .ref (ma 9), .int 0, .int 0, .ref (ma 10), .ref (ma 11), .ref (ma 12), .int 0, .int 0]))] := hD
  subst hw
  exact W.iret (v := 0) hx hb hr (fun t9 ht hW => ⟨⟨0, (), rfl, rfl, trivial⟩, hS.F ht⟩) hS.2.2 dX12_peace_9
theorem dX12_truce_0 : decode cX12_truce 0 = .ok (.aload_n 0, 1) := by decide +kernel
theorem dX12_truce_1 : decode cX12_truce 1 = .ok (.aload_n 0, 1) := by decide +kernel
theorem dX12_truce_2 : decode cX12_truce 2 = .ok (.iconst 1, 1) := by decide +kernel
theorem dX12_truce_3 : decode cX12_truce 3 = .ok (.invokevirtual 293, 3) := by decide +kernel
theorem dX12_truce_6 : decode cX12_truce 6 = .ok (.invokevirtual 76, 3) := by decide +kernel
theorem dX12_truce_9 : decode cX12_truce 9 = .ok (.ireturn, 1) := by decide +kernel
def vdq_truce : List Cond := [.code yX12_truce cX12_truce 1 (some .int), .methodLink RX12 293 yX12_setOf, .code yX12_setOf cX12_setOf 5 (some .int), .fieldLink RX12 7 "SaltStreetModel" "at" "[I", .instanceMethod yX12_setOf, .selects RX12 yX12_setOf yX12_setOf, .initialized RX12, .methodLink RX12 76 yX12_gives, .code yX12_gives cX12_gives 2 (some .int), .fieldLink RX12 66 "SaltStreetModel" "status" "I", .instanceMethod yX12_gives, .selects RX12 yX12_gives yX12_gives]
def vq_truce : List Cond := vdq_truce ++ (wsX120 ++ ([] : List Cond))
theorem iq_truce_X12 : ∀ w ∈ wsX120, w ∈ vq_truce := fun _ h => List.mem_append_right _ (List.mem_append_left _ h)
set_option maxRecDepth 20000 in
theorem gq_truce_293_m_setOf : GoodIn vq_truce (wsV RX12 293 RX12 yX12_setOf vm_setOf) := (goodIn_app (goodIn_r _ [1, 4, 5, 6] rfl (by decide +kernel)) (goodIn_app (goodIn_r vdm_setOf [2, 3] rfl (by decide +kernel)) (goodIn_app (goodIn_sub iq_truce_X12 gdX12) goodIn_nil)))
set_option maxRecDepth 20000 in
theorem gq_truce_76_m_gives : GoodIn vq_truce (wsV RX12 76 RX12 yX12_gives vm_gives) := (goodIn_app (goodIn_r _ [7, 10, 11, 6] rfl (by decide +kernel)) (goodIn_app (goodIn_r vdm_gives [8, 9] rfl (by decide +kernel)) (goodIn_app (goodIn_sub iq_truce_X12 gdX12) goodIn_nil)))
set_option maxHeartbeats 4000000 in
set_option maxRecDepth 100000 in
theorem q_truce (l : Launch) (D : va_G) (kc : Nat → ClassId) (sz : Nat) (ma : Nat → Nat) : Met l yX12_truce vq_truce ({ frames := 1, cells := 0, slots := 0, locals := 24 }) (va_Pc [.ref (ma 0)] (wPre D kc [(ma 0, .inr (11, [.ref (ma 1), .ref (ma 2), .int 0, .long 0, .long 1, .ref (ma 3), .ref (ma 4), .ref (ma 5), .ref (ma 6), .ref (ma 7), .int 0, .int 0, .int 0, .int 0, .int 0, .int 0, .int (-1), .int (-1), .int 0, .int 0, .int 0, .ref (ma 8), .int 0, .int 0, .int (-1), .int 0, .int 0, .int 0, .ref (ma 9), .int 0, .int 0, .ref (ma 10), .ref (ma 11), .ref (ma 12), .int 0, .int 0])), (ma 1, .inl (kc 0, 2880, .inl at0))] sz)) (va_Qi (fun (r : Int32) (_ : Unit) => r = 0) wAny (va_A [(ma 0, .inr (11, [.ref (ma 1), .ref (ma 2), .int 0, .long 0, .long 1, .ref (ma 3), .ref (ma 4), .ref (ma 5), .ref (ma 6), .ref (ma 7), .int 0, .int 0, .int 0, .int 0, .int 0, .int 0, .int (-1), .int (-1), .int 0, .int 0, .int 0, .ref (ma 8), .int 0, .int 0, .int (-1), .int 0, .int 0, .int 0, .ref (ma 9), .int 0, .int 0, .ref (ma 10), .ref (ma 11), .ref (ma 12), .int 0, .int 0])), (ma 1, .inl (kc 0, 2880, .inl at0))] sz)) 0 0 (va_A [(ma 0, .inr (11, [.ref (ma 1), .ref (ma 2), .int 0, .long 0, .long 1, .ref (ma 3), .ref (ma 4), .ref (ma 5), .ref (ma 6), .ref (ma 7), .int 0, .int 0, .int 0, .int 0, .int 0, .int 0, .int (-1), .int (-1), .int 0, .int 0, .int 0, .ref (ma 8), .int 0, .int 0, .int (-1), .int 0, .int 0, .int 0, .ref (ma 9), .int 0, .int 0, .ref (ma 10), .ref (ma 11), .ref (ma 12), .int 0, .int 0])), (ma 1, .inl (kc 0, 2880, .inl at0))] sz) := by
  refine Met.ofW (cc := cX12_truce) (maxL := 1) (ret := (some .int)) (by decide) rfl ?_
  intro p e s m args below meth c s₁ B hml hv
  obtain ⟨rfl, hsz, hP, hE, hD0⟩ := hv
  have hx := B.exec
  have hb := B.bytes
  have hr := B.returns
  have hts := atoms_spec (ws := vq_truce) B.pre
  have hown : s.vm.findClass RX12 = some m.cls := findClass_of_methodNamed B.named
  have hlocks := B.notSynchronized
  subst hsz
  have hD := hD0.self (sz := s.heap.size)
  generalize hAe : va_A [(ma 0, .inr (11, [.ref (ma 1), .ref (ma 2), .int 0, .long 0, .long 1, .ref (ma 3), .ref (ma 4), .ref (ma 5), .ref (ma 6), .ref (ma 7), .int 0, .int 0, .int 0, .int 0, .int 0, .int 0, .int (-1), .int (-1), .int 0, .int 0, .int 0, .ref (ma 8), .int 0, .int 0, .int (-1), .int 0, .int 0, .int 0, .ref (ma 9), .int 0, .int 0, .ref (ma 10), .ref (ma 11), .ref (ma 12), .int 0, .int 0])), (ma 1, .inl (kc 0, 2880, .inl at0))] s.heap.size = A at hD ⊢
  have hA : ∀ q : Nat, s.heap.size ≤ q → A q := fun q h => by rw [← hAe]; exact Or.inr h
  have hS : va_S A s.heap s.heap [] := va_S.rf
  have hK := hE.1
  have hP : va_P D vwCl [(ma 0, .inr (11, [.ref (ma 1), .ref (ma 2), .int 0, .long 0, .long 1, .ref (ma 3), .ref (ma 4), .ref (ma 5), .ref (ma 6), .ref (ma 7), .int 0, .int 0, .int 0, .int 0, .int 0, .int 0, .int (-1), .int (-1), .int 0, .int 0, .int 0, .ref (ma 8), .int 0, .int 0, .int (-1), .int 0, .int 0, .int 0, .ref (ma 9), .int 0, .int 0, .ref (ma 10), .ref (ma 11), .ref (ma 12), .int 0, .int 0])), (ma 1, .inl (kc 0, 2880, .inl at0))] s.heap := hP
  have hl := lv_entry ([.ref (ma 0)]) (n := 1) (Nat.le_of_ble_eq_true rfl)
  rw [lg_entry_eq]
  generalize (lg_sl ([.ref (ma 0)]) ++ List.replicate (1 - (lg_sl ([.ref (ma 0)])).length) Slot.unset).toArray = ls at hl ⊢
  have hl : lv_has ls 1 [(0, .ref (ma 0))] := hl
  refine lv_aload_n hx hb dX12_truce_0 rfl (lv_at hl 0 rfl) ?_
  refine lv_aload_n hx hb dX12_truce_1 rfl (lv_at hl 0 rfl) ?_
  refine lv_iconst (v := 1) hx hb dX12_truce_2 (by decide) ?_
  have hPc := hP.sub (ws' := [(ma 0, .inr (11, [.ref (ma 1), .ref (ma 2), .int 0, .long 0, .long 1, .ref (ma 3), .ref (ma 4), .ref (ma 5), .ref (ma 6), .ref (ma 7), .int 0, .int 0, .int 0, .int 0, .int 0, .int 0, .int (-1), .int (-1), .int 0, .int 0, .int 0, .ref (ma 8), .int 0, .int 0, .int (-1), .int 0, .int 0, .int 0, .ref (ma 9), .int 0, .int 0, .ref (ma 10), .ref (ma 11), .ref (ma 12), .int 0, .int 0])), (ma 1, .inl (kc 0, 2880, .inl at0))]) [0, 1] rfl
  have hDc := hD.sub (ws' := [(ma 0, .inr (11, [.ref (ma 1), .ref (ma 2), .int 0, .long 0, .long 1, .ref (ma 3), .ref (ma 4), .ref (ma 5), .ref (ma 6), .ref (ma 7), .int 0, .int 0, .int 0, .int 0, .int 0, .int 0, .int (-1), .int (-1), .int 0, .int 0, .int 0, .ref (ma 8), .int 0, .int 0, .int (-1), .int 0, .int 0, .int 0, .ref (ma 9), .int 0, .int 0, .ref (ma 10), .ref (ma 11), .ref (ma 12), .int 0, .int 0])), (ma 1, .inl (kc 0, 2880, .inl at0))]) [0, 1] (by decide) rfl
  have hFc := va_free (wc := [(ma 0, .inr (11, [.ref (ma 1), .ref (ma 2), .int 0, .long 0, .long 1, .ref (ma 3), .ref (ma 4), .ref (ma 5), .ref (ma 6), .ref (ma 7), .int 0, .int 0, .int 0, .int 0, .int 0, .int 0, .int (-1), .int (-1), .int 0, .int 0, .int 0, .ref (ma 8), .int 0, .int 0, .int (-1), .int 0, .int 0, .int 0, .ref (ma 9), .int 0, .int 0, .ref (ma 10), .ref (ma 11), .ref (ma 12), .int 0, .int 0])), (ma 1, .inl (kc 0, 2880, .inl at0))]) hD hS hA [0, 1] rfl
  refine va_calli (va_runV (As := [.int 1]) (rest := [.ref (ma 0)]) ⟨hx, hb, hml, hown, hts⟩ (m_setOf l D kc s.heap.size ma 1) (cwV 1 hts gq_truce_293_m_setOf rfl rfl rfl (by decide +kernel) ⟨Nat.le_of_ble_eq_true rfl, Nat.le_of_ble_eq_true rfl⟩) (preV_ok hPc hDc hE (ci := 11) (q0 := 0) rfl rfl) rfl rfl hl.1 rfl (lv_room (Nat.le_of_ble_eq_true rfl)) dX12_truce_3 ⟨Nat.le_of_ble_eq_true rfl, Nat.le_of_ble_eq_true rfl⟩) hS (fun q _ h => hFc q h) hFc (fun r_3 u9 t9 H locs ht hvm hw hB hz1 hk1 hS => ?_)
  obtain ⟨hP1, hD1⟩ := hB
  rw [ht] at hP1
  obtain ⟨hP, hD⟩ := va_join (wr := []) (w1 := [(ma 0, .inr (11, [.ref (ma 1), .ref (ma 2), .int 0, .long 0, .long 1, .ref (ma 3), .ref (ma 4), .ref (ma 5), .ref (ma 6), .ref (ma 7), .int 0, .int 0, .int 0, .int 0, .int 0, .int 0, .int (-1), .int (-1), .int 0, .int 0, .int 0, .ref (ma 8), .int 0, .int 0, .int (-1), .int 0, .int 0, .int 0, .ref (ma 9), .int 0, .int 0, .ref (ma 10), .ref (ma 11), .ref (ma 12), .int 0, .int 0])), (ma 1, .inl (kc 0, 2880, .inl at0))]) hP hD [0, 1] [] rfl rfl (by decide) (by decide) hk1 hFc hP1 hD1
  have hP : va_P D vwCl [(ma 0, .inr (11, [.ref (ma 1), .ref (ma 2), .int 0, .long 0, .long 1, .ref (ma 3), .ref (ma 4), .ref (ma 5), .ref (ma 6), .ref (ma 7), .int 0, .int 0, .int 0, .int 0, .int 0, .int 0, .int (-1), .int (-1), .int 0, .int 0, .int 0, .ref (ma 8), .int 0, .int 0, .int (-1), .int 0, .int 0, .int 0, .ref (ma 9), .int 0, .int 0, .ref (ma 10), .ref (ma 11), .ref (ma 12), .int 0, .int 0])), (ma 1, .inl (kc 0, 2880, .inl at0))] H := hP
  have hD : va_D A [(ma 0, .inr (11, [.ref (ma 1), .ref (ma 2), .int 0, .long 0, .long 1, .ref (ma 3), .ref (ma 4), .ref (ma 5), .ref (ma 6), .ref (ma 7), .int 0, .int 0, .int 0, .int 0, .int 0, .int 0, .int (-1), .int (-1), .int 0, .int 0, .int 0, .ref (ma 8), .int 0, .int 0, .int (-1), .int 0, .int 0, .int 0, .ref (ma 9), .int 0, .int 0, .ref (ma 10), .ref (ma 11), .ref (ma 12), .int 0, .int 0])), (ma 1, .inl (kc 0, 2880, .inl at0))] := hD
  subst hw
  have hPc := hP.sub (ws' := [(ma 0, .inr (11, [.ref (ma 1), .ref (ma 2), .int 0, .long 0, .long 1, .ref (ma 3), .ref (ma 4), .ref (ma 5), .ref (ma 6), .ref (ma 7), .int 0, .int 0, .int 0, .int 0, .int 0, .int 0, .int (-1), .int (-1), .int 0, .int 0, .int 0, .ref (ma 8), .int 0, .int 0, .int (-1), .int 0, .int 0, .int 0, .ref (ma 9), .int 0, .int 0, .ref (ma 10), .ref (ma 11), .ref (ma 12), .int 0, .int 0]))]) [0] rfl
  have hDc := hD.sub (ws' := [(ma 0, .inr (11, [.ref (ma 1), .ref (ma 2), .int 0, .long 0, .long 1, .ref (ma 3), .ref (ma 4), .ref (ma 5), .ref (ma 6), .ref (ma 7), .int 0, .int 0, .int 0, .int 0, .int 0, .int 0, .int (-1), .int (-1), .int 0, .int 0, .int 0, .ref (ma 8), .int 0, .int 0, .int (-1), .int 0, .int 0, .int 0, .ref (ma 9), .int 0, .int 0, .ref (ma 10), .ref (ma 11), .ref (ma 12), .int 0, .int 0]))]) [0] (by decide) rfl
  have hFc := va_free (wc := [(ma 0, .inr (11, [.ref (ma 1), .ref (ma 2), .int 0, .long 0, .long 1, .ref (ma 3), .ref (ma 4), .ref (ma 5), .ref (ma 6), .ref (ma 7), .int 0, .int 0, .int 0, .int 0, .int 0, .int 0, .int (-1), .int (-1), .int 0, .int 0, .int 0, .ref (ma 8), .int 0, .int 0, .int (-1), .int 0, .int 0, .int 0, .ref (ma 9), .int 0, .int 0, .ref (ma 10), .ref (ma 11), .ref (ma 12), .int 0, .int 0]))]) hD hS hA [0] rfl
  refine va_calli (va_runV (As := [.int 0]) (rest := []) ⟨hx, hb, hml, hown, hts⟩ (m_gives l D kc H.size ma 0 0 1 0 0 0 0 0 0 (-1) (-1) 0 0 0 0 0 (-1) 0 0 0 0 0 0 0 0) (cwV 1 hts gq_truce_76_m_gives rfl rfl rfl (by decide +kernel) ⟨Nat.le_of_ble_eq_true rfl, Nat.le_of_ble_eq_true rfl⟩) (preV_ok hPc hDc hE (ci := 11) (q0 := 0) rfl rfl) rfl rfl hl.1 rfl (lv_room (Nat.le_of_ble_eq_true rfl)) dX12_truce_6 ⟨Nat.le_of_ble_eq_true rfl, Nat.le_of_ble_eq_true rfl⟩) hS (fun q _ h => hFc q h) hFc (fun r_6 u9 t9 H locs ht hvm hw hB hz1 hk1 hS => ?_)
  obtain ⟨hP1, hD1⟩ := hB
  rw [ht] at hP1
  obtain ⟨hP, hD⟩ := va_join (wr := [(ma 1, .inl (kc 0, 2880, .inl at0))]) (w1 := [(ma 0, .inr (11, [.ref (ma 1), .ref (ma 2), .int 0, .long 0, .long 1, .ref (ma 3), .ref (ma 4), .ref (ma 5), .ref (ma 6), .ref (ma 7), .int 0, .int 0, .int 0, .int 0, .int 0, .int 0, .int (-1), .int (-1), .int 0, .int 0, .int 0, .ref (ma 8), .int 0, .int 0, .int (-1), .int 0, .int 0, .int 0, .ref (ma 9), .int 0, .int 0, .ref (ma 10), .ref (ma 11), .ref (ma 12), .int 0, .int 0]))]) hP hD [0] [1] rfl rfl (by decide) (by decide) hk1 hFc hP1 hD1
  have hP : va_P D vwCl [(ma 1, .inl (kc 0, 2880, .inl at0)), (ma 0, .inr (11, [.ref (ma 1), .ref (ma 2), .int 0, .long 0, .long 1, .ref (ma 3), .ref (ma 4), .ref (ma 5), .ref (ma 6), .ref (ma 7), .int 0, .int 0, .int 0, .int 0, .int 0, .int 0, .int (-1), .int (-1), .int 0, .int 0, .int 0, .ref (ma 8), .int 0, .int 0, .int (-1), .int 0, .int 0, .int 0, .ref (ma 9), .int 0, .int 0, .ref (ma 10), .ref (ma 11), .ref (ma 12), .int 0, .int 0]))] H := hP
  have hD : va_D A [(ma 1, .inl (kc 0, 2880, .inl at0)), (ma 0, .inr (11, [.ref (ma 1), .ref (ma 2), .int 0, .long 0, .long 1, .ref (ma 3), .ref (ma 4), .ref (ma 5), .ref (ma 6), .ref (ma 7), .int 0, .int 0, .int 0, .int 0, .int 0, .int 0, .int (-1), .int (-1), .int 0, .int 0, .int 0, .ref (ma 8), .int 0, .int 0, .int (-1), .int 0, .int 0, .int 0, .ref (ma 9), .int 0, .int 0, .ref (ma 10), .ref (ma 11), .ref (ma 12), .int 0, .int 0]))] := hD
  subst hw
  exact W.iret (v := 0) hx hb hr (fun t9 ht hW => ⟨⟨0, (), rfl, rfl, trivial⟩, hS.F ht⟩) hS.2.2 dX12_truce_9
theorem dX12_over_0 : decode cX12_over 0 = .ok (.aload_n 0, 1) := by decide +kernel
theorem dX12_over_1 : decode cX12_over 1 = .ok (.aload_n 0, 1) := by decide +kernel
theorem dX12_over_2 : decode cX12_over 2 = .ok (.iconst 2, 1) := by decide +kernel
theorem dX12_over_3 : decode cX12_over 3 = .ok (.invokevirtual 293, 3) := by decide +kernel
theorem dX12_over_6 : decode cX12_over 6 = .ok (.invokevirtual 76, 3) := by decide +kernel
theorem dX12_over_9 : decode cX12_over 9 = .ok (.ireturn, 1) := by decide +kernel
def vdq_over : List Cond := [.code yX12_over cX12_over 1 (some .int), .methodLink RX12 293 yX12_setOf, .code yX12_setOf cX12_setOf 5 (some .int), .fieldLink RX12 7 "SaltStreetModel" "at" "[I", .instanceMethod yX12_setOf, .selects RX12 yX12_setOf yX12_setOf, .initialized RX12, .methodLink RX12 76 yX12_gives, .code yX12_gives cX12_gives 2 (some .int), .fieldLink RX12 66 "SaltStreetModel" "status" "I", .instanceMethod yX12_gives, .selects RX12 yX12_gives yX12_gives]
def vq_over : List Cond := vdq_over ++ (wsX120 ++ ([] : List Cond))
theorem iq_over_X12 : ∀ w ∈ wsX120, w ∈ vq_over := fun _ h => List.mem_append_right _ (List.mem_append_left _ h)
set_option maxRecDepth 20000 in
theorem gq_over_293_m_setOf : GoodIn vq_over (wsV RX12 293 RX12 yX12_setOf vm_setOf) := (goodIn_app (goodIn_r _ [1, 4, 5, 6] rfl (by decide +kernel)) (goodIn_app (goodIn_r vdm_setOf [2, 3] rfl (by decide +kernel)) (goodIn_app (goodIn_sub iq_over_X12 gdX12) goodIn_nil)))
set_option maxRecDepth 20000 in
theorem gq_over_76_m_gives : GoodIn vq_over (wsV RX12 76 RX12 yX12_gives vm_gives) := (goodIn_app (goodIn_r _ [7, 10, 11, 6] rfl (by decide +kernel)) (goodIn_app (goodIn_r vdm_gives [8, 9] rfl (by decide +kernel)) (goodIn_app (goodIn_sub iq_over_X12 gdX12) goodIn_nil)))
set_option maxHeartbeats 4000000 in
set_option maxRecDepth 100000 in
theorem q_over (l : Launch) (D : va_G) (kc : Nat → ClassId) (sz : Nat) (ma : Nat → Nat) : Met l yX12_over vq_over ({ frames := 1, cells := 0, slots := 0, locals := 24 }) (va_Pc [.ref (ma 0)] (wPre D kc [(ma 0, .inr (11, [.ref (ma 1), .ref (ma 2), .int 0, .long 0, .long 1, .ref (ma 3), .ref (ma 4), .ref (ma 5), .ref (ma 6), .ref (ma 7), .int 0, .int 0, .int 0, .int 0, .int 0, .int 0, .int (-1), .int (-1), .int 0, .int 0, .int 0, .ref (ma 8), .int 0, .int 0, .int (-1), .int 0, .int 0, .int 0, .ref (ma 9), .int 0, .int 0, .ref (ma 10), .ref (ma 11), .ref (ma 12), .int 0, .int 0])), (ma 1, .inl (kc 0, 2880, .inl at0))] sz)) (va_Qi (fun (r : Int32) (_ : Unit) => r = 0) wAny (va_A [(ma 0, .inr (11, [.ref (ma 1), .ref (ma 2), .int 0, .long 0, .long 1, .ref (ma 3), .ref (ma 4), .ref (ma 5), .ref (ma 6), .ref (ma 7), .int 0, .int 0, .int 0, .int 0, .int 0, .int 0, .int (-1), .int (-1), .int 0, .int 0, .int 0, .ref (ma 8), .int 0, .int 0, .int (-1), .int 0, .int 0, .int 0, .ref (ma 9), .int 0, .int 0, .ref (ma 10), .ref (ma 11), .ref (ma 12), .int 0, .int 0])), (ma 1, .inl (kc 0, 2880, .inl at0))] sz)) 0 0 (va_A [(ma 0, .inr (11, [.ref (ma 1), .ref (ma 2), .int 0, .long 0, .long 1, .ref (ma 3), .ref (ma 4), .ref (ma 5), .ref (ma 6), .ref (ma 7), .int 0, .int 0, .int 0, .int 0, .int 0, .int 0, .int (-1), .int (-1), .int 0, .int 0, .int 0, .ref (ma 8), .int 0, .int 0, .int (-1), .int 0, .int 0, .int 0, .ref (ma 9), .int 0, .int 0, .ref (ma 10), .ref (ma 11), .ref (ma 12), .int 0, .int 0])), (ma 1, .inl (kc 0, 2880, .inl at0))] sz) := by
  refine Met.ofW (cc := cX12_over) (maxL := 1) (ret := (some .int)) (by decide) rfl ?_
  intro p e s m args below meth c s₁ B hml hv
  obtain ⟨rfl, hsz, hP, hE, hD0⟩ := hv
  have hx := B.exec
  have hb := B.bytes
  have hr := B.returns
  have hts := atoms_spec (ws := vq_over) B.pre
  have hown : s.vm.findClass RX12 = some m.cls := findClass_of_methodNamed B.named
  have hlocks := B.notSynchronized
  subst hsz
  have hD := hD0.self (sz := s.heap.size)
  generalize hAe : va_A [(ma 0, .inr (11, [.ref (ma 1), .ref (ma 2), .int 0, .long 0, .long 1, .ref (ma 3), .ref (ma 4), .ref (ma 5), .ref (ma 6), .ref (ma 7), .int 0, .int 0, .int 0, .int 0, .int 0, .int 0, .int (-1), .int (-1), .int 0, .int 0, .int 0, .ref (ma 8), .int 0, .int 0, .int (-1), .int 0, .int 0, .int 0, .ref (ma 9), .int 0, .int 0, .ref (ma 10), .ref (ma 11), .ref (ma 12), .int 0, .int 0])), (ma 1, .inl (kc 0, 2880, .inl at0))] s.heap.size = A at hD ⊢
  have hA : ∀ q : Nat, s.heap.size ≤ q → A q := fun q h => by rw [← hAe]; exact Or.inr h
  have hS : va_S A s.heap s.heap [] := va_S.rf
  have hK := hE.1
  have hP : va_P D vwCl [(ma 0, .inr (11, [.ref (ma 1), .ref (ma 2), .int 0, .long 0, .long 1, .ref (ma 3), .ref (ma 4), .ref (ma 5), .ref (ma 6), .ref (ma 7), .int 0, .int 0, .int 0, .int 0, .int 0, .int 0, .int (-1), .int (-1), .int 0, .int 0, .int 0, .ref (ma 8), .int 0, .int 0, .int (-1), .int 0, .int 0, .int 0, .ref (ma 9), .int 0, .int 0, .ref (ma 10), .ref (ma 11), .ref (ma 12), .int 0, .int 0])), (ma 1, .inl (kc 0, 2880, .inl at0))] s.heap := hP
  have hl := lv_entry ([.ref (ma 0)]) (n := 1) (Nat.le_of_ble_eq_true rfl)
  rw [lg_entry_eq]
  generalize (lg_sl ([.ref (ma 0)]) ++ List.replicate (1 - (lg_sl ([.ref (ma 0)])).length) Slot.unset).toArray = ls at hl ⊢
  have hl : lv_has ls 1 [(0, .ref (ma 0))] := hl
  refine lv_aload_n hx hb dX12_over_0 rfl (lv_at hl 0 rfl) ?_
  refine lv_aload_n hx hb dX12_over_1 rfl (lv_at hl 0 rfl) ?_
  refine lv_iconst (v := 2) hx hb dX12_over_2 (by decide) ?_
  have hPc := hP.sub (ws' := [(ma 0, .inr (11, [.ref (ma 1), .ref (ma 2), .int 0, .long 0, .long 1, .ref (ma 3), .ref (ma 4), .ref (ma 5), .ref (ma 6), .ref (ma 7), .int 0, .int 0, .int 0, .int 0, .int 0, .int 0, .int (-1), .int (-1), .int 0, .int 0, .int 0, .ref (ma 8), .int 0, .int 0, .int (-1), .int 0, .int 0, .int 0, .ref (ma 9), .int 0, .int 0, .ref (ma 10), .ref (ma 11), .ref (ma 12), .int 0, .int 0])), (ma 1, .inl (kc 0, 2880, .inl at0))]) [0, 1] rfl
  have hDc := hD.sub (ws' := [(ma 0, .inr (11, [.ref (ma 1), .ref (ma 2), .int 0, .long 0, .long 1, .ref (ma 3), .ref (ma 4), .ref (ma 5), .ref (ma 6), .ref (ma 7), .int 0, .int 0, .int 0, .int 0, .int 0, .int 0, .int (-1), .int (-1), .int 0, .int 0, .int 0, .ref (ma 8), .int 0, .int 0, .int (-1), .int 0, .int 0, .int 0, .ref (ma 9), .int 0, .int 0, .ref (ma 10), .ref (ma 11), .ref (ma 12), .int 0, .int 0])), (ma 1, .inl (kc 0, 2880, .inl at0))]) [0, 1] (by decide) rfl
  have hFc := va_free (wc := [(ma 0, .inr (11, [.ref (ma 1), .ref (ma 2), .int 0, .long 0, .long 1, .ref (ma 3), .ref (ma 4), .ref (ma 5), .ref (ma 6), .ref (ma 7), .int 0, .int 0, .int 0, .int 0, .int 0, .int 0, .int (-1), .int (-1), .int 0, .int 0, .int 0, .ref (ma 8), .int 0, .int 0, .int (-1), .int 0, .int 0, .int 0, .ref (ma 9), .int 0, .int 0, .ref (ma 10), .ref (ma 11), .ref (ma 12), .int 0, .int 0])), (ma 1, .inl (kc 0, 2880, .inl at0))]) hD hS hA [0, 1] rfl
  refine va_calli (va_runV (As := [.int 2]) (rest := [.ref (ma 0)]) ⟨hx, hb, hml, hown, hts⟩ (m_setOf l D kc s.heap.size ma 2) (cwV 1 hts gq_over_293_m_setOf rfl rfl rfl (by decide +kernel) ⟨Nat.le_of_ble_eq_true rfl, Nat.le_of_ble_eq_true rfl⟩) (preV_ok hPc hDc hE (ci := 11) (q0 := 0) rfl rfl) rfl rfl hl.1 rfl (lv_room (Nat.le_of_ble_eq_true rfl)) dX12_over_3 ⟨Nat.le_of_ble_eq_true rfl, Nat.le_of_ble_eq_true rfl⟩) hS (fun q _ h => hFc q h) hFc (fun r_3 u9 t9 H locs ht hvm hw hB hz1 hk1 hS => ?_)
  obtain ⟨hP1, hD1⟩ := hB
  rw [ht] at hP1
  obtain ⟨hP, hD⟩ := va_join (wr := []) (w1 := [(ma 0, .inr (11, [.ref (ma 1), .ref (ma 2), .int 0, .long 0, .long 1, .ref (ma 3), .ref (ma 4), .ref (ma 5), .ref (ma 6), .ref (ma 7), .int 0, .int 0, .int 0, .int 0, .int 0, .int 0, .int (-1), .int (-1), .int 0, .int 0, .int 0, .ref (ma 8), .int 0, .int 0, .int (-1), .int 0, .int 0, .int 0, .ref (ma 9), .int 0, .int 0, .ref (ma 10), .ref (ma 11), .ref (ma 12), .int 0, .int 0])), (ma 1, .inl (kc 0, 2880, .inl at0))]) hP hD [0, 1] [] rfl rfl (by decide) (by decide) hk1 hFc hP1 hD1
  have hP : va_P D vwCl [(ma 0, .inr (11, [.ref (ma 1), .ref (ma 2), .int 0, .long 0, .long 1, .ref (ma 3), .ref (ma 4), .ref (ma 5), .ref (ma 6), .ref (ma 7), .int 0, .int 0, .int 0, .int 0, .int 0, .int 0, .int (-1), .int (-1), .int 0, .int 0, .int 0, .ref (ma 8), .int 0, .int 0, .int (-1), .int 0, .int 0, .int 0, .ref (ma 9), .int 0, .int 0, .ref (ma 10), .ref (ma 11), .ref (ma 12), .int 0, .int 0])), (ma 1, .inl (kc 0, 2880, .inl at0))] H := hP
  have hD : va_D A [(ma 0, .inr (11, [.ref (ma 1), .ref (ma 2), .int 0, .long 0, .long 1, .ref (ma 3), .ref (ma 4), .ref (ma 5), .ref (ma 6), .ref (ma 7), .int 0, .int 0, .int 0, .int 0, .int 0, .int 0, .int (-1), .int (-1), .int 0, .int 0, .int 0, .ref (ma 8), .int 0, .int 0, .int (-1), .int 0, .int 0, .int 0, .ref (ma 9), .int 0, .int 0, .ref (ma 10), .ref (ma 11), .ref (ma 12), .int 0, .int 0])), (ma 1, .inl (kc 0, 2880, .inl at0))] := hD
  subst hw
  have hPc := hP.sub (ws' := [(ma 0, .inr (11, [.ref (ma 1), .ref (ma 2), .int 0, .long 0, .long 1, .ref (ma 3), .ref (ma 4), .ref (ma 5), .ref (ma 6), .ref (ma 7), .int 0, .int 0, .int 0, .int 0, .int 0, .int 0, .int (-1), .int (-1), .int 0, .int 0, .int 0, .ref (ma 8), .int 0, .int 0, .int (-1), .int 0, .int 0, .int 0, .ref (ma 9), .int 0, .int 0, .ref (ma 10), .ref (ma 11), .ref (ma 12), .int 0, .int 0]))]) [0] rfl
  have hDc := hD.sub (ws' := [(ma 0, .inr (11, [.ref (ma 1), .ref (ma 2), .int 0, .long 0, .long 1, .ref (ma 3), .ref (ma 4), .ref (ma 5), .ref (ma 6), .ref (ma 7), .int 0, .int 0, .int 0, .int 0, .int 0, .int 0, .int (-1), .int (-1), .int 0, .int 0, .int 0, .ref (ma 8), .int 0, .int 0, .int (-1), .int 0, .int 0, .int 0, .ref (ma 9), .int 0, .int 0, .ref (ma 10), .ref (ma 11), .ref (ma 12), .int 0, .int 0]))]) [0] (by decide) rfl
  have hFc := va_free (wc := [(ma 0, .inr (11, [.ref (ma 1), .ref (ma 2), .int 0, .long 0, .long 1, .ref (ma 3), .ref (ma 4), .ref (ma 5), .ref (ma 6), .ref (ma 7), .int 0, .int 0, .int 0, .int 0, .int 0, .int 0, .int (-1), .int (-1), .int 0, .int 0, .int 0, .ref (ma 8), .int 0, .int 0, .int (-1), .int 0, .int 0, .int 0, .ref (ma 9), .int 0, .int 0, .ref (ma 10), .ref (ma 11), .ref (ma 12), .int 0, .int 0]))]) hD hS hA [0] rfl
  refine va_calli (va_runV (As := [.int 0]) (rest := []) ⟨hx, hb, hml, hown, hts⟩ (m_gives l D kc H.size ma 0 0 1 0 0 0 0 0 0 (-1) (-1) 0 0 0 0 0 (-1) 0 0 0 0 0 0 0 0) (cwV 1 hts gq_over_76_m_gives rfl rfl rfl (by decide +kernel) ⟨Nat.le_of_ble_eq_true rfl, Nat.le_of_ble_eq_true rfl⟩) (preV_ok hPc hDc hE (ci := 11) (q0 := 0) rfl rfl) rfl rfl hl.1 rfl (lv_room (Nat.le_of_ble_eq_true rfl)) dX12_over_6 ⟨Nat.le_of_ble_eq_true rfl, Nat.le_of_ble_eq_true rfl⟩) hS (fun q _ h => hFc q h) hFc (fun r_6 u9 t9 H locs ht hvm hw hB hz1 hk1 hS => ?_)
  obtain ⟨hP1, hD1⟩ := hB
  rw [ht] at hP1
  obtain ⟨hP, hD⟩ := va_join (wr := [(ma 1, .inl (kc 0, 2880, .inl at0))]) (w1 := [(ma 0, .inr (11, [.ref (ma 1), .ref (ma 2), .int 0, .long 0, .long 1, .ref (ma 3), .ref (ma 4), .ref (ma 5), .ref (ma 6), .ref (ma 7), .int 0, .int 0, .int 0, .int 0, .int 0, .int 0, .int (-1), .int (-1), .int 0, .int 0, .int 0, .ref (ma 8), .int 0, .int 0, .int (-1), .int 0, .int 0, .int 0, .ref (ma 9), .int 0, .int 0, .ref (ma 10), .ref (ma 11), .ref (ma 12), .int 0, .int 0]))]) hP hD [0] [1] rfl rfl (by decide) (by decide) hk1 hFc hP1 hD1
  have hP : va_P D vwCl [(ma 1, .inl (kc 0, 2880, .inl at0)), (ma 0, .inr (11, [.ref (ma 1), .ref (ma 2), .int 0, .long 0, .long 1, .ref (ma 3), .ref (ma 4), .ref (ma 5), .ref (ma 6), .ref (ma 7), .int 0, .int 0, .int 0, .int 0, .int 0, .int 0, .int (-1), .int (-1), .int 0, .int 0, .int 0, .ref (ma 8), .int 0, .int 0, .int (-1), .int 0, .int 0, .int 0, .ref (ma 9), .int 0, .int 0, .ref (ma 10), .ref (ma 11), .ref (ma 12), .int 0, .int 0]))] H := hP
  have hD : va_D A [(ma 1, .inl (kc 0, 2880, .inl at0)), (ma 0, .inr (11, [.ref (ma 1), .ref (ma 2), .int 0, .long 0, .long 1, .ref (ma 3), .ref (ma 4), .ref (ma 5), .ref (ma 6), .ref (ma 7), .int 0, .int 0, .int 0, .int 0, .int 0, .int 0, .int (-1), .int (-1), .int 0, .int 0, .int 0, .ref (ma 8), .int 0, .int 0, .int (-1), .int 0, .int 0, .int 0, .ref (ma 9), .int 0, .int 0, .ref (ma 10), .ref (ma 11), .ref (ma 12), .int 0, .int 0]))] := hD
  subst hw
  exact W.iret (v := 0) hx hb hr (fun t9 ht hW => ⟨⟨0, (), rfl, rfl, trivial⟩, hS.F ht⟩) hS.2.2 dX12_over_9
theorem dX12_hopeless_0 : decode cX12_hopeless 0 = .ok (.aload_n 0, 1) := by decide +kernel
theorem dX12_hopeless_1 : decode cX12_hopeless 1 = .ok (.aload_n 0, 1) := by decide +kernel
theorem dX12_hopeless_2 : decode cX12_hopeless 2 = .ok (.iconst 3, 1) := by decide +kernel
theorem dX12_hopeless_3 : decode cX12_hopeless 3 = .ok (.invokevirtual 293, 3) := by decide +kernel
theorem dX12_hopeless_6 : decode cX12_hopeless 6 = .ok (.invokevirtual 76, 3) := by decide +kernel
theorem dX12_hopeless_9 : decode cX12_hopeless 9 = .ok (.ireturn, 1) := by decide +kernel
def vdq_hopeless : List Cond := [.code yX12_hopeless cX12_hopeless 1 (some .int), .methodLink RX12 293 yX12_setOf, .code yX12_setOf cX12_setOf 5 (some .int), .fieldLink RX12 7 "SaltStreetModel" "at" "[I", .instanceMethod yX12_setOf, .selects RX12 yX12_setOf yX12_setOf, .initialized RX12, .methodLink RX12 76 yX12_gives, .code yX12_gives cX12_gives 2 (some .int), .fieldLink RX12 66 "SaltStreetModel" "status" "I", .instanceMethod yX12_gives, .selects RX12 yX12_gives yX12_gives]
def vq_hopeless : List Cond := vdq_hopeless ++ (wsX120 ++ ([] : List Cond))
theorem iq_hopeless_X12 : ∀ w ∈ wsX120, w ∈ vq_hopeless := fun _ h => List.mem_append_right _ (List.mem_append_left _ h)
set_option maxRecDepth 20000 in
theorem gq_hopeless_293_m_setOf : GoodIn vq_hopeless (wsV RX12 293 RX12 yX12_setOf vm_setOf) := (goodIn_app (goodIn_r _ [1, 4, 5, 6] rfl (by decide +kernel)) (goodIn_app (goodIn_r vdm_setOf [2, 3] rfl (by decide +kernel)) (goodIn_app (goodIn_sub iq_hopeless_X12 gdX12) goodIn_nil)))
set_option maxRecDepth 20000 in
theorem gq_hopeless_76_m_gives : GoodIn vq_hopeless (wsV RX12 76 RX12 yX12_gives vm_gives) := (goodIn_app (goodIn_r _ [7, 10, 11, 6] rfl (by decide +kernel)) (goodIn_app (goodIn_r vdm_gives [8, 9] rfl (by decide +kernel)) (goodIn_app (goodIn_sub iq_hopeless_X12 gdX12) goodIn_nil)))
set_option maxHeartbeats 4000000 in
set_option maxRecDepth 100000 in
theorem q_hopeless (l : Launch) (D : va_G) (kc : Nat → ClassId) (sz : Nat) (ma : Nat → Nat) : Met l yX12_hopeless vq_hopeless ({ frames := 1, cells := 0, slots := 0, locals := 24 }) (va_Pc [.ref (ma 0)] (wPre D kc [(ma 0, .inr (11, [.ref (ma 1), .ref (ma 2), .int 0, .long 0, .long 1, .ref (ma 3), .ref (ma 4), .ref (ma 5), .ref (ma 6), .ref (ma 7), .int 0, .int 0, .int 0, .int 0, .int 0, .int 0, .int (-1), .int (-1), .int 0, .int 0, .int 0, .ref (ma 8), .int 0, .int 0, .int (-1), .int 0, .int 0, .int 0, .ref (ma 9), .int 0, .int 0, .ref (ma 10), .ref (ma 11), .ref (ma 12), .int 0, .int 0])), (ma 1, .inl (kc 0, 2880, .inl at0))] sz)) (va_Qi (fun (r : Int32) (_ : Unit) => r = 0) wAny (va_A [(ma 0, .inr (11, [.ref (ma 1), .ref (ma 2), .int 0, .long 0, .long 1, .ref (ma 3), .ref (ma 4), .ref (ma 5), .ref (ma 6), .ref (ma 7), .int 0, .int 0, .int 0, .int 0, .int 0, .int 0, .int (-1), .int (-1), .int 0, .int 0, .int 0, .ref (ma 8), .int 0, .int 0, .int (-1), .int 0, .int 0, .int 0, .ref (ma 9), .int 0, .int 0, .ref (ma 10), .ref (ma 11), .ref (ma 12), .int 0, .int 0])), (ma 1, .inl (kc 0, 2880, .inl at0))] sz)) 0 0 (va_A [(ma 0, .inr (11, [.ref (ma 1), .ref (ma 2), .int 0, .long 0, .long 1, .ref (ma 3), .ref (ma 4), .ref (ma 5), .ref (ma 6), .ref (ma 7), .int 0, .int 0, .int 0, .int 0, .int 0, .int 0, .int (-1), .int (-1), .int 0, .int 0, .int 0, .ref (ma 8), .int 0, .int 0, .int (-1), .int 0, .int 0, .int 0, .ref (ma 9), .int 0, .int 0, .ref (ma 10), .ref (ma 11), .ref (ma 12), .int 0, .int 0])), (ma 1, .inl (kc 0, 2880, .inl at0))] sz) := by
  refine Met.ofW (cc := cX12_hopeless) (maxL := 1) (ret := (some .int)) (by decide) rfl ?_
  intro p e s m args below meth c s₁ B hml hv
  obtain ⟨rfl, hsz, hP, hE, hD0⟩ := hv
  have hx := B.exec
  have hb := B.bytes
  have hr := B.returns
  have hts := atoms_spec (ws := vq_hopeless) B.pre
  have hown : s.vm.findClass RX12 = some m.cls := findClass_of_methodNamed B.named
  have hlocks := B.notSynchronized
  subst hsz
  have hD := hD0.self (sz := s.heap.size)
  generalize hAe : va_A [(ma 0, .inr (11, [.ref (ma 1), .ref (ma 2), .int 0, .long 0, .long 1, .ref (ma 3), .ref (ma 4), .ref (ma 5), .ref (ma 6), .ref (ma 7), .int 0, .int 0, .int 0, .int 0, .int 0, .int 0, .int (-1), .int (-1), .int 0, .int 0, .int 0, .ref (ma 8), .int 0, .int 0, .int (-1), .int 0, .int 0, .int 0, .ref (ma 9), .int 0, .int 0, .ref (ma 10), .ref (ma 11), .ref (ma 12), .int 0, .int 0])), (ma 1, .inl (kc 0, 2880, .inl at0))] s.heap.size = A at hD ⊢
  have hA : ∀ q : Nat, s.heap.size ≤ q → A q := fun q h => by rw [← hAe]; exact Or.inr h
  have hS : va_S A s.heap s.heap [] := va_S.rf
  have hK := hE.1
  have hP : va_P D vwCl [(ma 0, .inr (11, [.ref (ma 1), .ref (ma 2), .int 0, .long 0, .long 1, .ref (ma 3), .ref (ma 4), .ref (ma 5), .ref (ma 6), .ref (ma 7), .int 0, .int 0, .int 0, .int 0, .int 0, .int 0, .int (-1), .int (-1), .int 0, .int 0, .int 0, .ref (ma 8), .int 0, .int 0, .int (-1), .int 0, .int 0, .int 0, .ref (ma 9), .int 0, .int 0, .ref (ma 10), .ref (ma 11), .ref (ma 12), .int 0, .int 0])), (ma 1, .inl (kc 0, 2880, .inl at0))] s.heap := hP
  have hl := lv_entry ([.ref (ma 0)]) (n := 1) (Nat.le_of_ble_eq_true rfl)
  rw [lg_entry_eq]
  generalize (lg_sl ([.ref (ma 0)]) ++ List.replicate (1 - (lg_sl ([.ref (ma 0)])).length) Slot.unset).toArray = ls at hl ⊢
  have hl : lv_has ls 1 [(0, .ref (ma 0))] := hl
  refine lv_aload_n hx hb dX12_hopeless_0 rfl (lv_at hl 0 rfl) ?_
  refine lv_aload_n hx hb dX12_hopeless_1 rfl (lv_at hl 0 rfl) ?_
  refine lv_iconst (v := 3) hx hb dX12_hopeless_2 (by decide) ?_
  have hPc := hP.sub (ws' := [(ma 0, .inr (11, [.ref (ma 1), .ref (ma 2), .int 0, .long 0, .long 1, .ref (ma 3), .ref (ma 4), .ref (ma 5), .ref (ma 6), .ref (ma 7), .int 0, .int 0, .int 0, .int 0, .int 0, .int 0, .int (-1), .int (-1), .int 0, .int 0, .int 0, .ref (ma 8), .int 0, .int 0, .int (-1), .int 0, .int 0, .int 0, .ref (ma 9), .int 0, .int 0, .ref (ma 10), .ref (ma 11), .ref (ma 12), .int 0, .int 0])), (ma 1, .inl (kc 0, 2880, .inl at0))]) [0, 1] rfl
  have hDc := hD.sub (ws' := [(ma 0, .inr (11, [.ref (ma 1), .ref (ma 2), .int 0, .long 0, .long 1, .ref (ma 3), .ref (ma 4), .ref (ma 5), .ref (ma 6), .ref (ma 7), .int 0, .int 0, .int 0, .int 0, .int 0, .int 0, .int (-1), .int (-1), .int 0, .int 0, .int 0, .ref (ma 8), .int 0, .int 0, .int (-1), .int 0, .int 0, .int 0, .ref (ma 9), .int 0, .int 0, .ref (ma 10), .ref (ma 11), .ref (ma 12), .int 0, .int 0])), (ma 1, .inl (kc 0, 2880, .inl at0))]) [0, 1] (by decide) rfl
  have hFc := va_free (wc := [(ma 0, .inr (11, [.ref (ma 1), .ref (ma 2), .int 0, .long 0, .long 1, .ref (ma 3), .ref (ma 4), .ref (ma 5), .ref (ma 6), .ref (ma 7), .int 0, .int 0, .int 0, .int 0, .int 0, .int 0, .int (-1), .int (-1), .int 0, .int 0, .int 0, .ref (ma 8), .int 0, .int 0, .int (-1), .int 0, .int 0, .int 0, .ref (ma 9), .int 0, .int 0, .ref (ma 10), .ref (ma 11), .ref (ma 12), .int 0, .int 0])), (ma 1, .inl (kc 0, 2880, .inl at0))]) hD hS hA [0, 1] rfl
  refine va_calli (va_runV (As := [.int 3]) (rest := [.ref (ma 0)]) ⟨hx, hb, hml, hown, hts⟩ (m_setOf l D kc s.heap.size ma 3) (cwV 1 hts gq_hopeless_293_m_setOf rfl rfl rfl (by decide +kernel) ⟨Nat.le_of_ble_eq_true rfl, Nat.le_of_ble_eq_true rfl⟩) (preV_ok hPc hDc hE (ci := 11) (q0 := 0) rfl rfl) rfl rfl hl.1 rfl (lv_room (Nat.le_of_ble_eq_true rfl)) dX12_hopeless_3 ⟨Nat.le_of_ble_eq_true rfl, Nat.le_of_ble_eq_true rfl⟩) hS (fun q _ h => hFc q h) hFc (fun r_3 u9 t9 H locs ht hvm hw hB hz1 hk1 hS => ?_)
  obtain ⟨hP1, hD1⟩ := hB
  rw [ht] at hP1
  obtain ⟨hP, hD⟩ := va_join (wr := []) (w1 := [(ma 0, .inr (11, [.ref (ma 1), .ref (ma 2), .int 0, .long 0, .long 1, .ref (ma 3), .ref (ma 4), .ref (ma 5), .ref (ma 6), .ref (ma 7), .int 0, .int 0, .int 0, .int 0, .int 0, .int 0, .int (-1), .int (-1), .int 0, .int 0, .int 0, .ref (ma 8), .int 0, .int 0, .int (-1), .int 0, .int 0, .int 0, .ref (ma 9), .int 0, .int 0, .ref (ma 10), .ref (ma 11), .ref (ma 12), .int 0, .int 0])), (ma 1, .inl (kc 0, 2880, .inl at0))]) hP hD [0, 1] [] rfl rfl (by decide) (by decide) hk1 hFc hP1 hD1
  have hP : va_P D vwCl [(ma 0, .inr (11, [.ref (ma 1), .ref (ma 2), .int 0, .long 0, .long 1, .ref (ma 3), .ref (ma 4), .ref (ma 5), .ref (ma 6), .ref (ma 7), .int 0, .int 0, .int 0, .int 0, .int 0, .int 0, .int (-1), .int (-1), .int 0, .int 0, .int 0, .ref (ma 8), .int 0, .int 0, .int (-1), .int 0, .int 0, .int 0, .ref (ma 9), .int 0, .int 0, .ref (ma 10), .ref (ma 11), .ref (ma 12), .int 0, .int 0])), (ma 1, .inl (kc 0, 2880, .inl at0))] H := hP
  have hD : va_D A [(ma 0, .inr (11, [.ref (ma 1), .ref (ma 2), .int 0, .long 0, .long 1, .ref (ma 3), .ref (ma 4), .ref (ma 5), .ref (ma 6), .ref (ma 7), .int 0, .int 0, .int 0, .int 0, .int 0, .int 0, .int (-1), .int (-1), .int 0, .int 0, .int 0, .ref (ma 8), .int 0, .int 0, .int (-1), .int 0, .int 0, .int 0, .ref (ma 9), .int 0, .int 0, .ref (ma 10), .ref (ma 11), .ref (ma 12), .int 0, .int 0])), (ma 1, .inl (kc 0, 2880, .inl at0))] := hD
  subst hw
  have hPc := hP.sub (ws' := [(ma 0, .inr (11, [.ref (ma 1), .ref (ma 2), .int 0, .long 0, .long 1, .ref (ma 3), .ref (ma 4), .ref (ma 5), .ref (ma 6), .ref (ma 7), .int 0, .int 0, .int 0, .int 0, .int 0, .int 0, .int (-1), .int (-1), .int 0, .int 0, .int 0, .ref (ma 8), .int 0, .int 0, .int (-1), .int 0, .int 0, .int 0, .ref (ma 9), .int 0, .int 0, .ref (ma 10), .ref (ma 11), .ref (ma 12), .int 0, .int 0]))]) [0] rfl
  have hDc := hD.sub (ws' := [(ma 0, .inr (11, [.ref (ma 1), .ref (ma 2), .int 0, .long 0, .long 1, .ref (ma 3), .ref (ma 4), .ref (ma 5), .ref (ma 6), .ref (ma 7), .int 0, .int 0, .int 0, .int 0, .int 0, .int 0, .int (-1), .int (-1), .int 0, .int 0, .int 0, .ref (ma 8), .int 0, .int 0, .int (-1), .int 0, .int 0, .int 0, .ref (ma 9), .int 0, .int 0, .ref (ma 10), .ref (ma 11), .ref (ma 12), .int 0, .int 0]))]) [0] (by decide) rfl
  have hFc := va_free (wc := [(ma 0, .inr (11, [.ref (ma 1), .ref (ma 2), .int 0, .long 0, .long 1, .ref (ma 3), .ref (ma 4), .ref (ma 5), .ref (ma 6), .ref (ma 7), .int 0, .int 0, .int 0, .int 0, .int 0, .int 0, .int (-1), .int (-1), .int 0, .int 0, .int 0, .ref (ma 8), .int 0, .int 0, .int (-1), .int 0, .int 0, .int 0, .ref (ma 9), .int 0, .int 0, .ref (ma 10), .ref (ma 11), .ref (ma 12), .int 0, .int 0]))]) hD hS hA [0] rfl
  refine va_calli (va_runV (As := [.int 0]) (rest := []) ⟨hx, hb, hml, hown, hts⟩ (m_gives l D kc H.size ma 0 0 1 0 0 0 0 0 0 (-1) (-1) 0 0 0 0 0 (-1) 0 0 0 0 0 0 0 0) (cwV 1 hts gq_hopeless_76_m_gives rfl rfl rfl (by decide +kernel) ⟨Nat.le_of_ble_eq_true rfl, Nat.le_of_ble_eq_true rfl⟩) (preV_ok hPc hDc hE (ci := 11) (q0 := 0) rfl rfl) rfl rfl hl.1 rfl (lv_room (Nat.le_of_ble_eq_true rfl)) dX12_hopeless_6 ⟨Nat.le_of_ble_eq_true rfl, Nat.le_of_ble_eq_true rfl⟩) hS (fun q _ h => hFc q h) hFc (fun r_6 u9 t9 H locs ht hvm hw hB hz1 hk1 hS => ?_)
  obtain ⟨hP1, hD1⟩ := hB
  rw [ht] at hP1
  obtain ⟨hP, hD⟩ := va_join (wr := [(ma 1, .inl (kc 0, 2880, .inl at0))]) (w1 := [(ma 0, .inr (11, [.ref (ma 1), .ref (ma 2), .int 0, .long 0, .long 1, .ref (ma 3), .ref (ma 4), .ref (ma 5), .ref (ma 6), .ref (ma 7), .int 0, .int 0, .int 0, .int 0, .int 0, .int 0, .int (-1), .int (-1), .int 0, .int 0, .int 0, .ref (ma 8), .int 0, .int 0, .int (-1), .int 0, .int 0, .int 0, .ref (ma 9), .int 0, .int 0, .ref (ma 10), .ref (ma 11), .ref (ma 12), .int 0, .int 0]))]) hP hD [0] [1] rfl rfl (by decide) (by decide) hk1 hFc hP1 hD1
  have hP : va_P D vwCl [(ma 1, .inl (kc 0, 2880, .inl at0)), (ma 0, .inr (11, [.ref (ma 1), .ref (ma 2), .int 0, .long 0, .long 1, .ref (ma 3), .ref (ma 4), .ref (ma 5), .ref (ma 6), .ref (ma 7), .int 0, .int 0, .int 0, .int 0, .int 0, .int 0, .int (-1), .int (-1), .int 0, .int 0, .int 0, .ref (ma 8), .int 0, .int 0, .int (-1), .int 0, .int 0, .int 0, .ref (ma 9), .int 0, .int 0, .ref (ma 10), .ref (ma 11), .ref (ma 12), .int 0, .int 0]))] H := hP
  have hD : va_D A [(ma 1, .inl (kc 0, 2880, .inl at0)), (ma 0, .inr (11, [.ref (ma 1), .ref (ma 2), .int 0, .long 0, .long 1, .ref (ma 3), .ref (ma 4), .ref (ma 5), .ref (ma 6), .ref (ma 7), .int 0, .int 0, .int 0, .int 0, .int 0, .int 0, .int (-1), .int (-1), .int 0, .int 0, .int 0, .ref (ma 8), .int 0, .int 0, .int (-1), .int 0, .int 0, .int 0, .ref (ma 9), .int 0, .int 0, .ref (ma 10), .ref (ma 11), .ref (ma 12), .int 0, .int 0]))] := hD
  subst hw
  exact W.iret (v := 0) hx hb hr (fun t9 ht hW => ⟨⟨0, (), rfl, rfl, trivial⟩, hS.F ht⟩) hS.2.2 dX12_hopeless_9
theorem dX12_longest_0 : decode cX12_longest 0 = .ok (.iconst (-1), 1) := by decide +kernel
theorem dX12_longest_1 : decode cX12_longest 1 = .ok (.istore_n 1, 1) := by decide +kernel
theorem dX12_longest_2 : decode cX12_longest 2 = .ok (.iconst 0, 1) := by decide +kernel
theorem dX12_longest_3 : decode cX12_longest 3 = .ok (.istore_n 2, 1) := by decide +kernel
theorem dX12_longest_4 : decode cX12_longest 4 = .ok (.iload_n 2, 1) := by decide +kernel
theorem dX12_longest_5 : decode cX12_longest 5 = .ok (.aload_n 0, 1) := by decide +kernel
theorem dX12_longest_6 : decode cX12_longest 6 = .ok (.getfield 7, 3) := by decide +kernel
theorem dX12_longest_9 : decode cX12_longest 9 = .ok (.iconst 1, 1) := by decide +kernel
theorem dX12_longest_10 : decode cX12_longest 10 = .ok (.iaload, 1) := by decide +kernel
theorem dX12_longest_11 : decode cX12_longest 11 = .ok (.if_icmp .ge 55, 3) := by decide +kernel
theorem dX12_longest_66 : decode cX12_longest 66 = .ok (.aload_n 0, 1) := by decide +kernel
theorem dX12_longest_67 : decode cX12_longest 67 = .ok (.iload_n 1, 1) := by decide +kernel
theorem dX12_longest_68 : decode cX12_longest 68 = .ok (.invokevirtual 344, 3) := by decide +kernel
theorem dX12_longest_71 : decode cX12_longest 71 = .ok (.ireturn, 1) := by decide +kernel
def vdq_longest : List Cond := [.code yX12_longest cX12_longest 3 (some .int), .fieldLink RX12 7 "SaltStreetModel" "at" "[I", .methodLink RX12 344 yX12_orNone, .code yX12_orNone cX12_orNone 2 (some .int), .methodLink RX12 76 yX12_gives, .code yX12_gives cX12_gives 2 (some .int), .fieldLink RX12 66 "SaltStreetModel" "status" "I", .instanceMethod yX12_gives, .selects RX12 yX12_gives yX12_gives, .initialized RX12, .methodLink RX12 72 yX12_refuse, .code yX12_refuse cX12_refuse 2 (some .int), .instanceMethod yX12_refuse, .selects RX12 yX12_refuse yX12_refuse, .instanceMethod yX12_orNone, .selects RX12 yX12_orNone yX12_orNone]
def vq_longest : List Cond := vdq_longest ++ (wsX120 ++ ([] : List Cond))
theorem iq_longest_X12 : ∀ w ∈ wsX120, w ∈ vq_longest := fun _ h => List.mem_append_right _ (List.mem_append_left _ h)
set_option maxRecDepth 20000 in
theorem gq_longest_344_m_orNone : GoodIn vq_longest (wsV RX12 344 RX12 yX12_orNone vm_orNone) := (goodIn_app (goodIn_r _ [2, 14, 15, 9] rfl (by decide +kernel)) (goodIn_app (goodIn_r vdm_orNone [3, 4, 5, 6, 7, 8, 9, 10, 11, 12, 13] rfl (by decide +kernel)) (goodIn_app (goodIn_sub iq_longest_X12 gdX12) goodIn_nil)))
set_option maxHeartbeats 4000000 in
set_option maxRecDepth 100000 in
theorem q_longest (l : Launch) (D : va_G) (kc : Nat → ClassId) (sz : Nat) (ma : Nat → Nat) : Met l yX12_longest vq_longest ({ frames := 2, cells := 0, slots := 0, locals := 42 }) (va_Pc [.ref (ma 0)] (wPre D kc [(ma 0, .inr (11, [.ref (ma 1), .ref (ma 2), .int 0, .long 0, .long 1, .ref (ma 3), .ref (ma 4), .ref (ma 5), .ref (ma 6), .ref (ma 7), .int 0, .int 0, .int 0, .int 0, .int 0, .int 0, .int (-1), .int (-1), .int 0, .int 0, .int 0, .ref (ma 8), .int 0, .int 0, .int (-1), .int 0, .int 0, .int 0, .ref (ma 9), .int 0, .int 0, .ref (ma 10), .ref (ma 11), .ref (ma 12), .int 0, .int 0])), (ma 1, .inl (kc 0, 2880, .inl at0))] sz)) (va_Qi (fun (r : Int32) (_ : Unit) => r = (-1)) wAny (va_A [(ma 0, .inr (11, [.ref (ma 1), .ref (ma 2), .int 0, .long 0, .long 1, .ref (ma 3), .ref (ma 4), .ref (ma 5), .ref (ma 6), .ref (ma 7), .int 0, .int 0, .int 0, .int 0, .int 0, .int 0, .int (-1), .int (-1), .int 0, .int 0, .int 0, .ref (ma 8), .int 0, .int 0, .int (-1), .int 0, .int 0, .int 0, .ref (ma 9), .int 0, .int 0, .ref (ma 10), .ref (ma 11), .ref (ma 12), .int 0, .int 0])), (ma 1, .inl (kc 0, 2880, .inl at0))] sz)) 0 0 (va_A [(ma 0, .inr (11, [.ref (ma 1), .ref (ma 2), .int 0, .long 0, .long 1, .ref (ma 3), .ref (ma 4), .ref (ma 5), .ref (ma 6), .ref (ma 7), .int 0, .int 0, .int 0, .int 0, .int 0, .int 0, .int (-1), .int (-1), .int 0, .int 0, .int 0, .ref (ma 8), .int 0, .int 0, .int (-1), .int 0, .int 0, .int 0, .ref (ma 9), .int 0, .int 0, .ref (ma 10), .ref (ma 11), .ref (ma 12), .int 0, .int 0])), (ma 1, .inl (kc 0, 2880, .inl at0))] sz) := by
  refine Met.ofW (cc := cX12_longest) (maxL := 3) (ret := (some .int)) (by decide) rfl ?_
  intro p e s m args below meth c s₁ B hml hv
  obtain ⟨rfl, hsz, hP, hE, hD0⟩ := hv
  have hx := B.exec
  have hb := B.bytes
  have hr := B.returns
  have hts := atoms_spec (ws := vq_longest) B.pre
  have hown : s.vm.findClass RX12 = some m.cls := findClass_of_methodNamed B.named
  have hlocks := B.notSynchronized
  subst hsz
  have hD := hD0.self (sz := s.heap.size)
  generalize hAe : va_A [(ma 0, .inr (11, [.ref (ma 1), .ref (ma 2), .int 0, .long 0, .long 1, .ref (ma 3), .ref (ma 4), .ref (ma 5), .ref (ma 6), .ref (ma 7), .int 0, .int 0, .int 0, .int 0, .int 0, .int 0, .int (-1), .int (-1), .int 0, .int 0, .int 0, .ref (ma 8), .int 0, .int 0, .int (-1), .int 0, .int 0, .int 0, .ref (ma 9), .int 0, .int 0, .ref (ma 10), .ref (ma 11), .ref (ma 12), .int 0, .int 0])), (ma 1, .inl (kc 0, 2880, .inl at0))] s.heap.size = A at hD ⊢
  have hA : ∀ q : Nat, s.heap.size ≤ q → A q := fun q h => by rw [← hAe]; exact Or.inr h
  have hS : va_S A s.heap s.heap [] := va_S.rf
  have hK := hE.1
  have hP : va_P D vwCl [(ma 0, .inr (11, [.ref (ma 1), .ref (ma 2), .int 0, .long 0, .long 1, .ref (ma 3), .ref (ma 4), .ref (ma 5), .ref (ma 6), .ref (ma 7), .int 0, .int 0, .int 0, .int 0, .int 0, .int 0, .int (-1), .int (-1), .int 0, .int 0, .int 0, .ref (ma 8), .int 0, .int 0, .int (-1), .int 0, .int 0, .int 0, .ref (ma 9), .int 0, .int 0, .ref (ma 10), .ref (ma 11), .ref (ma 12), .int 0, .int 0])), (ma 1, .inl (kc 0, 2880, .inl at0))] s.heap := hP
  have hl := lv_entry ([.ref (ma 0)]) (n := 3) (Nat.le_of_ble_eq_true rfl)
  rw [lg_entry_eq]
  generalize (lg_sl ([.ref (ma 0)]) ++ List.replicate (3 - (lg_sl ([.ref (ma 0)])).length) Slot.unset).toArray = ls at hl ⊢
  have hl : lv_has ls 3 [(0, .ref (ma 0))] := hl
  refine lv_iconst (v := (-1)) hx hb dX12_longest_0 (by decide) ?_
  refine lv_istore_n (lv' := [(1, .int (-1)), (0, .ref (ma 0))]) hx hb dX12_longest_1 rfl hl (by decide) rfl (fun ls hl => ?_)
  refine lv_iconst (v := 0) hx hb dX12_longest_2 (by decide) ?_
  refine lv_istore_n (lv' := [(2, .int 0), (1, .int (-1)), (0, .ref (ma 0))]) hx hb dX12_longest_3 rfl hl (by decide) rfl (fun ls hl => ?_)
  refine lv_iload_n hx hb dX12_longest_4 rfl (lv_at hl 0 rfl) ?_
  refine lv_aload_n hx hb dX12_longest_5 rfl (lv_at hl 2 rfl) ?_
  refine va_get (D := D) (ci := 11) (v := .ref (ma 1)) (C := RX12) (T := TX12) (N := 36) hx hb hts iq_longest_X12 hown hK hP 0 rfl rfl 0 (by decide) (hts (.fieldLink RX12 7 "SaltStreetModel" "at" "[I") (List.mem_of_getElem? (i := 1) rfl)) (fun _ h9 => h9) rfl dX12_longest_6 ?_
  refine lv_iconst (v := 1) hx hb dX12_longest_9 (by decide) ?_
  refine va_iald hx hb hK hP 1 0 (f := at0) rfl rfl (by unfold vp_in; decide) dX12_longest_10 ?_
  refine lv_ci (y := 0) (by decide) ?_
  refine lv_icmp_ge (tgt := 66) hx hb dX12_longest_11 (by decide) (fun _ => ?_) (fun h => absurd (by decide) h)
  refine lv_aload_n hx hb dX12_longest_66 rfl (lv_at hl 2 rfl) ?_
  refine lv_iload_n hx hb dX12_longest_67 rfl (lv_at hl 1 rfl) ?_
  have hPc := hP.sub (ws' := [(ma 0, .inr (11, [.ref (ma 1), .ref (ma 2), .int 0, .long 0, .long 1, .ref (ma 3), .ref (ma 4), .ref (ma 5), .ref (ma 6), .ref (ma 7), .int 0, .int 0, .int 0, .int 0, .int 0, .int 0, .int (-1), .int (-1), .int 0, .int 0, .int 0, .ref (ma 8), .int 0, .int 0, .int (-1), .int 0, .int 0, .int 0, .ref (ma 9), .int 0, .int 0, .ref (ma 10), .ref (ma 11), .ref (ma 12), .int 0, .int 0]))]) [0] rfl
  have hDc := hD.sub (ws' := [(ma 0, .inr (11, [.ref (ma 1), .ref (ma 2), .int 0, .long 0, .long 1, .ref (ma 3), .ref (ma 4), .ref (ma 5), .ref (ma 6), .ref (ma 7), .int 0, .int 0, .int 0, .int 0, .int 0, .int 0, .int (-1), .int (-1), .int 0, .int 0, .int 0, .ref (ma 8), .int 0, .int 0, .int (-1), .int 0, .int 0, .int 0, .ref (ma 9), .int 0, .int 0, .ref (ma 10), .ref (ma 11), .ref (ma 12), .int 0, .int 0]))]) [0] (by decide) rfl
  have hFc := va_free (wc := [(ma 0, .inr (11, [.ref (ma 1), .ref (ma 2), .int 0, .long 0, .long 1, .ref (ma 3), .ref (ma 4), .ref (ma 5), .ref (ma 6), .ref (ma 7), .int 0, .int 0, .int 0, .int 0, .int 0, .int 0, .int (-1), .int (-1), .int 0, .int 0, .int 0, .ref (ma 8), .int 0, .int 0, .int (-1), .int 0, .int 0, .int 0, .ref (ma 9), .int 0, .int 0, .ref (ma 10), .ref (ma 11), .ref (ma 12), .int 0, .int 0]))]) hD hS hA [0] rfl
  refine va_calli (va_runV (As := [.int (-1)]) (rest := []) ⟨hx, hb, hml, hown, hts⟩ (m_orNone l D kc s.heap.size ma 0 0 1 0 0 0 0 0 0 (-1) (-1) 0 0 0 0 0 (-1) 0 0 0 0 0 0 0 (-1)) (cwV 1 hts gq_longest_344_m_orNone rfl rfl rfl (by decide +kernel) ⟨Nat.le_of_ble_eq_true rfl, Nat.le_of_ble_eq_true rfl⟩) (preV_ok hPc hDc hE (ci := 11) (q0 := 0) rfl rfl) rfl rfl hl.1 rfl (lv_room (Nat.le_of_ble_eq_true rfl)) dX12_longest_68 ⟨Nat.le_of_ble_eq_true rfl, Nat.le_of_ble_eq_true rfl⟩) hS (fun q _ h => hFc q h) hFc (fun r_68 u9 t9 H locs ht hvm hw hB hz1 hk1 hS => ?_)
  obtain ⟨hP, hD⟩ := va_join (wr := [(ma 1, .inl (kc 0, 2880, .inl at0))]) (w1 := []) hP hD [0] [1] rfl rfl (by decide) (by decide) hk1 hFc (fun _ _ h => by simp at h) ⟨fun _ _ _ _ h => by simp at h, fun _ _ h => by simp at h⟩
  have hP : va_P D vwCl [(ma 1, .inl (kc 0, 2880, .inl at0))] H := hP
  have hD : va_D A [(ma 1, .inl (kc 0, 2880, .inl at0))] := hD
  subst hw
  exact W.iret (v := (-1)) hx hb hr (fun t9 ht hW => ⟨⟨(-1), (), rfl, rfl, trivial⟩, hS.F ht⟩) hS.2.2 dX12_longest_71
theorem dX12_fullest_0 : decode cX12_fullest 0 = .ok (.iconst (-1), 1) := by decide +kernel
theorem dX12_fullest_1 : decode cX12_fullest 1 = .ok (.istore_n 1, 1) := by decide +kernel
theorem dX12_fullest_2 : decode cX12_fullest 2 = .ok (.iconst 0, 1) := by decide +kernel
theorem dX12_fullest_3 : decode cX12_fullest 3 = .ok (.istore_n 2, 1) := by decide +kernel
theorem dX12_fullest_4 : decode cX12_fullest 4 = .ok (.iload_n 2, 1) := by decide +kernel
theorem dX12_fullest_5 : decode cX12_fullest 5 = .ok (.aload_n 0, 1) := by decide +kernel
theorem dX12_fullest_6 : decode cX12_fullest 6 = .ok (.getfield 7, 3) := by decide +kernel
theorem dX12_fullest_9 : decode cX12_fullest 9 = .ok (.iconst 0, 1) := by decide +kernel
theorem dX12_fullest_10 : decode cX12_fullest 10 = .ok (.iaload, 1) := by decide +kernel
theorem dX12_fullest_11 : decode cX12_fullest 11 = .ok (.if_icmp .ge 37, 3) := by decide +kernel
theorem dX12_fullest_48 : decode cX12_fullest 48 = .ok (.aload_n 0, 1) := by decide +kernel
theorem dX12_fullest_49 : decode cX12_fullest 49 = .ok (.iload_n 1, 1) := by decide +kernel
theorem dX12_fullest_50 : decode cX12_fullest 50 = .ok (.invokevirtual 344, 3) := by decide +kernel
theorem dX12_fullest_53 : decode cX12_fullest 53 = .ok (.ireturn, 1) := by decide +kernel
def vdq_fullest : List Cond := [.code yX12_fullest cX12_fullest 3 (some .int), .fieldLink RX12 7 "SaltStreetModel" "at" "[I", .methodLink RX12 344 yX12_orNone, .code yX12_orNone cX12_orNone 2 (some .int), .methodLink RX12 76 yX12_gives, .code yX12_gives cX12_gives 2 (some .int), .fieldLink RX12 66 "SaltStreetModel" "status" "I", .instanceMethod yX12_gives, .selects RX12 yX12_gives yX12_gives, .initialized RX12, .methodLink RX12 72 yX12_refuse, .code yX12_refuse cX12_refuse 2 (some .int), .instanceMethod yX12_refuse, .selects RX12 yX12_refuse yX12_refuse, .instanceMethod yX12_orNone, .selects RX12 yX12_orNone yX12_orNone]
def vq_fullest : List Cond := vdq_fullest ++ (wsX120 ++ ([] : List Cond))
theorem iq_fullest_X12 : ∀ w ∈ wsX120, w ∈ vq_fullest := fun _ h => List.mem_append_right _ (List.mem_append_left _ h)
set_option maxRecDepth 20000 in
theorem gq_fullest_344_m_orNone : GoodIn vq_fullest (wsV RX12 344 RX12 yX12_orNone vm_orNone) := (goodIn_app (goodIn_r _ [2, 14, 15, 9] rfl (by decide +kernel)) (goodIn_app (goodIn_r vdm_orNone [3, 4, 5, 6, 7, 8, 9, 10, 11, 12, 13] rfl (by decide +kernel)) (goodIn_app (goodIn_sub iq_fullest_X12 gdX12) goodIn_nil)))
set_option maxHeartbeats 4000000 in
set_option maxRecDepth 100000 in
theorem q_fullest (l : Launch) (D : va_G) (kc : Nat → ClassId) (sz : Nat) (ma : Nat → Nat) : Met l yX12_fullest vq_fullest ({ frames := 2, cells := 0, slots := 0, locals := 42 }) (va_Pc [.ref (ma 0)] (wPre D kc [(ma 0, .inr (11, [.ref (ma 1), .ref (ma 2), .int 0, .long 0, .long 1, .ref (ma 3), .ref (ma 4), .ref (ma 5), .ref (ma 6), .ref (ma 7), .int 0, .int 0, .int 0, .int 0, .int 0, .int 0, .int (-1), .int (-1), .int 0, .int 0, .int 0, .ref (ma 8), .int 0, .int 0, .int (-1), .int 0, .int 0, .int 0, .ref (ma 9), .int 0, .int 0, .ref (ma 10), .ref (ma 11), .ref (ma 12), .int 0, .int 0])), (ma 1, .inl (kc 0, 2880, .inl at0))] sz)) (va_Qi (fun (r : Int32) (_ : Unit) => r = (-1)) wAny (va_A [(ma 0, .inr (11, [.ref (ma 1), .ref (ma 2), .int 0, .long 0, .long 1, .ref (ma 3), .ref (ma 4), .ref (ma 5), .ref (ma 6), .ref (ma 7), .int 0, .int 0, .int 0, .int 0, .int 0, .int 0, .int (-1), .int (-1), .int 0, .int 0, .int 0, .ref (ma 8), .int 0, .int 0, .int (-1), .int 0, .int 0, .int 0, .ref (ma 9), .int 0, .int 0, .ref (ma 10), .ref (ma 11), .ref (ma 12), .int 0, .int 0])), (ma 1, .inl (kc 0, 2880, .inl at0))] sz)) 0 0 (va_A [(ma 0, .inr (11, [.ref (ma 1), .ref (ma 2), .int 0, .long 0, .long 1, .ref (ma 3), .ref (ma 4), .ref (ma 5), .ref (ma 6), .ref (ma 7), .int 0, .int 0, .int 0, .int 0, .int 0, .int 0, .int (-1), .int (-1), .int 0, .int 0, .int 0, .ref (ma 8), .int 0, .int 0, .int (-1), .int 0, .int 0, .int 0, .ref (ma 9), .int 0, .int 0, .ref (ma 10), .ref (ma 11), .ref (ma 12), .int 0, .int 0])), (ma 1, .inl (kc 0, 2880, .inl at0))] sz) := by
  refine Met.ofW (cc := cX12_fullest) (maxL := 3) (ret := (some .int)) (by decide) rfl ?_
  intro p e s m args below meth c s₁ B hml hv
  obtain ⟨rfl, hsz, hP, hE, hD0⟩ := hv
  have hx := B.exec
  have hb := B.bytes
  have hr := B.returns
  have hts := atoms_spec (ws := vq_fullest) B.pre
  have hown : s.vm.findClass RX12 = some m.cls := findClass_of_methodNamed B.named
  have hlocks := B.notSynchronized
  subst hsz
  have hD := hD0.self (sz := s.heap.size)
  generalize hAe : va_A [(ma 0, .inr (11, [.ref (ma 1), .ref (ma 2), .int 0, .long 0, .long 1, .ref (ma 3), .ref (ma 4), .ref (ma 5), .ref (ma 6), .ref (ma 7), .int 0, .int 0, .int 0, .int 0, .int 0, .int 0, .int (-1), .int (-1), .int 0, .int 0, .int 0, .ref (ma 8), .int 0, .int 0, .int (-1), .int 0, .int 0, .int 0, .ref (ma 9), .int 0, .int 0, .ref (ma 10), .ref (ma 11), .ref (ma 12), .int 0, .int 0])), (ma 1, .inl (kc 0, 2880, .inl at0))] s.heap.size = A at hD ⊢
  have hA : ∀ q : Nat, s.heap.size ≤ q → A q := fun q h => by rw [← hAe]; exact Or.inr h
  have hS : va_S A s.heap s.heap [] := va_S.rf
  have hK := hE.1
  have hP : va_P D vwCl [(ma 0, .inr (11, [.ref (ma 1), .ref (ma 2), .int 0, .long 0, .long 1, .ref (ma 3), .ref (ma 4), .ref (ma 5), .ref (ma 6), .ref (ma 7), .int 0, .int 0, .int 0, .int 0, .int 0, .int 0, .int (-1), .int (-1), .int 0, .int 0, .int 0, .ref (ma 8), .int 0, .int 0, .int (-1), .int 0, .int 0, .int 0, .ref (ma 9), .int 0, .int 0, .ref (ma 10), .ref (ma 11), .ref (ma 12), .int 0, .int 0])), (ma 1, .inl (kc 0, 2880, .inl at0))] s.heap := hP
  have hl := lv_entry ([.ref (ma 0)]) (n := 3) (Nat.le_of_ble_eq_true rfl)
  rw [lg_entry_eq]
  generalize (lg_sl ([.ref (ma 0)]) ++ List.replicate (3 - (lg_sl ([.ref (ma 0)])).length) Slot.unset).toArray = ls at hl ⊢
  have hl : lv_has ls 3 [(0, .ref (ma 0))] := hl
  refine lv_iconst (v := (-1)) hx hb dX12_fullest_0 (by decide) ?_
  refine lv_istore_n (lv' := [(1, .int (-1)), (0, .ref (ma 0))]) hx hb dX12_fullest_1 rfl hl (by decide) rfl (fun ls hl => ?_)
  refine lv_iconst (v := 0) hx hb dX12_fullest_2 (by decide) ?_
  refine lv_istore_n (lv' := [(2, .int 0), (1, .int (-1)), (0, .ref (ma 0))]) hx hb dX12_fullest_3 rfl hl (by decide) rfl (fun ls hl => ?_)
  refine lv_iload_n hx hb dX12_fullest_4 rfl (lv_at hl 0 rfl) ?_
  refine lv_aload_n hx hb dX12_fullest_5 rfl (lv_at hl 2 rfl) ?_
  refine va_get (D := D) (ci := 11) (v := .ref (ma 1)) (C := RX12) (T := TX12) (N := 36) hx hb hts iq_fullest_X12 hown hK hP 0 rfl rfl 0 (by decide) (hts (.fieldLink RX12 7 "SaltStreetModel" "at" "[I") (List.mem_of_getElem? (i := 1) rfl)) (fun _ h9 => h9) rfl dX12_fullest_6 ?_
  refine lv_iconst (v := 0) hx hb dX12_fullest_9 (by decide) ?_
  refine va_iald hx hb hK hP 1 0 (f := at0) rfl rfl (by unfold vp_in; decide) dX12_fullest_10 ?_
  refine lv_ci (y := 0) (by decide) ?_
  refine lv_icmp_ge (tgt := 48) hx hb dX12_fullest_11 (by decide) (fun _ => ?_) (fun h => absurd (by decide) h)
  refine lv_aload_n hx hb dX12_fullest_48 rfl (lv_at hl 2 rfl) ?_
  refine lv_iload_n hx hb dX12_fullest_49 rfl (lv_at hl 1 rfl) ?_
  have hPc := hP.sub (ws' := [(ma 0, .inr (11, [.ref (ma 1), .ref (ma 2), .int 0, .long 0, .long 1, .ref (ma 3), .ref (ma 4), .ref (ma 5), .ref (ma 6), .ref (ma 7), .int 0, .int 0, .int 0, .int 0, .int 0, .int 0, .int (-1), .int (-1), .int 0, .int 0, .int 0, .ref (ma 8), .int 0, .int 0, .int (-1), .int 0, .int 0, .int 0, .ref (ma 9), .int 0, .int 0, .ref (ma 10), .ref (ma 11), .ref (ma 12), .int 0, .int 0]))]) [0] rfl
  have hDc := hD.sub (ws' := [(ma 0, .inr (11, [.ref (ma 1), .ref (ma 2), .int 0, .long 0, .long 1, .ref (ma 3), .ref (ma 4), .ref (ma 5), .ref (ma 6), .ref (ma 7), .int 0, .int 0, .int 0, .int 0, .int 0, .int 0, .int (-1), .int (-1), .int 0, .int 0, .int 0, .ref (ma 8), .int 0, .int 0, .int (-1), .int 0, .int 0, .int 0, .ref (ma 9), .int 0, .int 0, .ref (ma 10), .ref (ma 11), .ref (ma 12), .int 0, .int 0]))]) [0] (by decide) rfl
  have hFc := va_free (wc := [(ma 0, .inr (11, [.ref (ma 1), .ref (ma 2), .int 0, .long 0, .long 1, .ref (ma 3), .ref (ma 4), .ref (ma 5), .ref (ma 6), .ref (ma 7), .int 0, .int 0, .int 0, .int 0, .int 0, .int 0, .int (-1), .int (-1), .int 0, .int 0, .int 0, .ref (ma 8), .int 0, .int 0, .int (-1), .int 0, .int 0, .int 0, .ref (ma 9), .int 0, .int 0, .ref (ma 10), .ref (ma 11), .ref (ma 12), .int 0, .int 0]))]) hD hS hA [0] rfl
  refine va_calli (va_runV (As := [.int (-1)]) (rest := []) ⟨hx, hb, hml, hown, hts⟩ (m_orNone l D kc s.heap.size ma 0 0 1 0 0 0 0 0 0 (-1) (-1) 0 0 0 0 0 (-1) 0 0 0 0 0 0 0 (-1)) (cwV 1 hts gq_fullest_344_m_orNone rfl rfl rfl (by decide +kernel) ⟨Nat.le_of_ble_eq_true rfl, Nat.le_of_ble_eq_true rfl⟩) (preV_ok hPc hDc hE (ci := 11) (q0 := 0) rfl rfl) rfl rfl hl.1 rfl (lv_room (Nat.le_of_ble_eq_true rfl)) dX12_fullest_50 ⟨Nat.le_of_ble_eq_true rfl, Nat.le_of_ble_eq_true rfl⟩) hS (fun q _ h => hFc q h) hFc (fun r_50 u9 t9 H locs ht hvm hw hB hz1 hk1 hS => ?_)
  obtain ⟨hP, hD⟩ := va_join (wr := [(ma 1, .inl (kc 0, 2880, .inl at0))]) (w1 := []) hP hD [0] [1] rfl rfl (by decide) (by decide) hk1 hFc (fun _ _ h => by simp at h) ⟨fun _ _ _ _ h => by simp at h, fun _ _ h => by simp at h⟩
  have hP : va_P D vwCl [(ma 1, .inl (kc 0, 2880, .inl at0))] H := hP
  have hD : va_D A [(ma 1, .inl (kc 0, 2880, .inl at0))] := hD
  subst hw
  exact W.iret (v := (-1)) hx hb hr (fun t9 ht hW => ⟨⟨(-1), (), rfl, rfl, trivial⟩, hS.F ht⟩) hS.2.2 dX12_fullest_53
theorem dX12_closest_0 : decode cX12_closest 0 = .ok (.iconst (-1), 1) := by decide +kernel
theorem dX12_closest_1 : decode cX12_closest 1 = .ok (.istore_n 1, 1) := by decide +kernel
theorem dX12_closest_2 : decode cX12_closest 2 = .ok (.iconst 0, 1) := by decide +kernel
theorem dX12_closest_3 : decode cX12_closest 3 = .ok (.istore_n 2, 1) := by decide +kernel
theorem dX12_closest_4 : decode cX12_closest 4 = .ok (.iconst 0, 1) := by decide +kernel
theorem dX12_closest_5 : decode cX12_closest 5 = .ok (.istore_n 3, 1) := by decide +kernel
theorem dX12_closest_6 : decode cX12_closest 6 = .ok (.iload_n 3, 1) := by decide +kernel
theorem dX12_closest_7 : decode cX12_closest 7 = .ok (.aload_n 0, 1) := by decide +kernel
theorem dX12_closest_8 : decode cX12_closest 8 = .ok (.getfield 7, 3) := by decide +kernel
theorem dX12_closest_11 : decode cX12_closest 11 = .ok (.iconst 1, 1) := by decide +kernel
theorem dX12_closest_12 : decode cX12_closest 12 = .ok (.iaload, 1) := by decide +kernel
theorem dX12_closest_13 : decode cX12_closest 13 = .ok (.if_icmp .ge 97, 3) := by decide +kernel
theorem dX12_closest_110 : decode cX12_closest 110 = .ok (.aload_n 0, 1) := by decide +kernel
theorem dX12_closest_111 : decode cX12_closest 111 = .ok (.iload_n 1, 1) := by decide +kernel
theorem dX12_closest_112 : decode cX12_closest 112 = .ok (.invokevirtual 344, 3) := by decide +kernel
theorem dX12_closest_115 : decode cX12_closest 115 = .ok (.ireturn, 1) := by decide +kernel
def vdq_closest : List Cond := [.code yX12_closest cX12_closest 6 (some .int), .fieldLink RX12 7 "SaltStreetModel" "at" "[I", .methodLink RX12 344 yX12_orNone, .code yX12_orNone cX12_orNone 2 (some .int), .methodLink RX12 76 yX12_gives, .code yX12_gives cX12_gives 2 (some .int), .fieldLink RX12 66 "SaltStreetModel" "status" "I", .instanceMethod yX12_gives, .selects RX12 yX12_gives yX12_gives, .initialized RX12, .methodLink RX12 72 yX12_refuse, .code yX12_refuse cX12_refuse 2 (some .int), .instanceMethod yX12_refuse, .selects RX12 yX12_refuse yX12_refuse, .instanceMethod yX12_orNone, .selects RX12 yX12_orNone yX12_orNone]
def vq_closest : List Cond := vdq_closest ++ (wsX120 ++ ([] : List Cond))
theorem iq_closest_X12 : ∀ w ∈ wsX120, w ∈ vq_closest := fun _ h => List.mem_append_right _ (List.mem_append_left _ h)
set_option maxRecDepth 20000 in
theorem gq_closest_344_m_orNone : GoodIn vq_closest (wsV RX12 344 RX12 yX12_orNone vm_orNone) := (goodIn_app (goodIn_r _ [2, 14, 15, 9] rfl (by decide +kernel)) (goodIn_app (goodIn_r vdm_orNone [3, 4, 5, 6, 7, 8, 9, 10, 11, 12, 13] rfl (by decide +kernel)) (goodIn_app (goodIn_sub iq_closest_X12 gdX12) goodIn_nil)))
set_option maxHeartbeats 4000000 in
set_option maxRecDepth 100000 in
theorem q_closest (l : Launch) (D : va_G) (kc : Nat → ClassId) (sz : Nat) (ma : Nat → Nat) : Met l yX12_closest vq_closest ({ frames := 2, cells := 0, slots := 0, locals := 42 }) (va_Pc [.ref (ma 0)] (wPre D kc [(ma 0, .inr (11, [.ref (ma 1), .ref (ma 2), .int 0, .long 0, .long 1, .ref (ma 3), .ref (ma 4), .ref (ma 5), .ref (ma 6), .ref (ma 7), .int 0, .int 0, .int 0, .int 0, .int 0, .int 0, .int (-1), .int (-1), .int 0, .int 0, .int 0, .ref (ma 8), .int 0, .int 0, .int (-1), .int 0, .int 0, .int 0, .ref (ma 9), .int 0, .int 0, .ref (ma 10), .ref (ma 11), .ref (ma 12), .int 0, .int 0])), (ma 1, .inl (kc 0, 2880, .inl at0))] sz)) (va_Qi (fun (r : Int32) (_ : Unit) => r = (-1)) wAny (va_A [(ma 0, .inr (11, [.ref (ma 1), .ref (ma 2), .int 0, .long 0, .long 1, .ref (ma 3), .ref (ma 4), .ref (ma 5), .ref (ma 6), .ref (ma 7), .int 0, .int 0, .int 0, .int 0, .int 0, .int 0, .int (-1), .int (-1), .int 0, .int 0, .int 0, .ref (ma 8), .int 0, .int 0, .int (-1), .int 0, .int 0, .int 0, .ref (ma 9), .int 0, .int 0, .ref (ma 10), .ref (ma 11), .ref (ma 12), .int 0, .int 0])), (ma 1, .inl (kc 0, 2880, .inl at0))] sz)) 0 0 (va_A [(ma 0, .inr (11, [.ref (ma 1), .ref (ma 2), .int 0, .long 0, .long 1, .ref (ma 3), .ref (ma 4), .ref (ma 5), .ref (ma 6), .ref (ma 7), .int 0, .int 0, .int 0, .int 0, .int 0, .int 0, .int (-1), .int (-1), .int 0, .int 0, .int 0, .ref (ma 8), .int 0, .int 0, .int (-1), .int 0, .int 0, .int 0, .ref (ma 9), .int 0, .int 0, .ref (ma 10), .ref (ma 11), .ref (ma 12), .int 0, .int 0])), (ma 1, .inl (kc 0, 2880, .inl at0))] sz) := by
  refine Met.ofW (cc := cX12_closest) (maxL := 6) (ret := (some .int)) (by decide) rfl ?_
  intro p e s m args below meth c s₁ B hml hv
  obtain ⟨rfl, hsz, hP, hE, hD0⟩ := hv
  have hx := B.exec
  have hb := B.bytes
  have hr := B.returns
  have hts := atoms_spec (ws := vq_closest) B.pre
  have hown : s.vm.findClass RX12 = some m.cls := findClass_of_methodNamed B.named
  have hlocks := B.notSynchronized
  subst hsz
  have hD := hD0.self (sz := s.heap.size)
  generalize hAe : va_A [(ma 0, .inr (11, [.ref (ma 1), .ref (ma 2), .int 0, .long 0, .long 1, .ref (ma 3), .ref (ma 4), .ref (ma 5), .ref (ma 6), .ref (ma 7), .int 0, .int 0, .int 0, .int 0, .int 0, .int 0, .int (-1), .int (-1), .int 0, .int 0, .int 0, .ref (ma 8), .int 0, .int 0, .int (-1), .int 0, .int 0, .int 0, .ref (ma 9), .int 0, .int 0, .ref (ma 10), .ref (ma 11), .ref (ma 12), .int 0, .int 0])), (ma 1, .inl (kc 0, 2880, .inl at0))] s.heap.size = A at hD ⊢
  have hA : ∀ q : Nat, s.heap.size ≤ q → A q := fun q h => by rw [← hAe]; exact Or.inr h
  have hS : va_S A s.heap s.heap [] := va_S.rf
  have hK := hE.1
  have hP : va_P D vwCl [(ma 0, .inr (11, [.ref (ma 1), .ref (ma 2), .int 0, .long 0, .long 1, .ref (ma 3), .ref (ma 4), .ref (ma 5), .ref (ma 6), .ref (ma 7), .int 0, .int 0, .int 0, .int 0, .int 0, .int 0, .int (-1), .int (-1), .int 0, .int 0, .int 0, .ref (ma 8), .int 0, .int 0, .int (-1), .int 0, .int 0, .int 0, .ref (ma 9), .int 0, .int 0, .ref (ma 10), .ref (ma 11), .ref (ma 12), .int 0, .int 0])), (ma 1, .inl (kc 0, 2880, .inl at0))] s.heap := hP
  have hl := lv_entry ([.ref (ma 0)]) (n := 6) (Nat.le_of_ble_eq_true rfl)
  rw [lg_entry_eq]
  generalize (lg_sl ([.ref (ma 0)]) ++ List.replicate (6 - (lg_sl ([.ref (ma 0)])).length) Slot.unset).toArray = ls at hl ⊢
  have hl : lv_has ls 6 [(0, .ref (ma 0))] := hl
  refine lv_iconst (v := (-1)) hx hb dX12_closest_0 (by decide) ?_
  refine lv_istore_n (lv' := [(1, .int (-1)), (0, .ref (ma 0))]) hx hb dX12_closest_1 rfl hl (by decide) rfl (fun ls hl => ?_)
  refine lv_iconst (v := 0) hx hb dX12_closest_2 (by decide) ?_
  refine lv_istore_n (lv' := [(2, .int 0), (1, .int (-1)), (0, .ref (ma 0))]) hx hb dX12_closest_3 rfl hl (by decide) rfl (fun ls hl => ?_)
  refine lv_iconst (v := 0) hx hb dX12_closest_4 (by decide) ?_
  refine lv_istore_n (lv' := [(3, .int 0), (2, .int 0), (1, .int (-1)), (0, .ref (ma 0))]) hx hb dX12_closest_5 rfl hl (by decide) rfl (fun ls hl => ?_)
  refine lv_iload_n hx hb dX12_closest_6 rfl (lv_at hl 0 rfl) ?_
  refine lv_aload_n hx hb dX12_closest_7 rfl (lv_at hl 3 rfl) ?_
  refine va_get (D := D) (ci := 11) (v := .ref (ma 1)) (C := RX12) (T := TX12) (N := 36) hx hb hts iq_closest_X12 hown hK hP 0 rfl rfl 0 (by decide) (hts (.fieldLink RX12 7 "SaltStreetModel" "at" "[I") (List.mem_of_getElem? (i := 1) rfl)) (fun _ h9 => h9) rfl dX12_closest_8 ?_
  refine lv_iconst (v := 1) hx hb dX12_closest_11 (by decide) ?_
  refine va_iald hx hb hK hP 1 0 (f := at0) rfl rfl (by unfold vp_in; decide) dX12_closest_12 ?_
  refine lv_ci (y := 0) (by decide) ?_
  refine lv_icmp_ge (tgt := 110) hx hb dX12_closest_13 (by decide) (fun _ => ?_) (fun h => absurd (by decide) h)
  refine lv_aload_n hx hb dX12_closest_110 rfl (lv_at hl 3 rfl) ?_
  refine lv_iload_n hx hb dX12_closest_111 rfl (lv_at hl 2 rfl) ?_
  have hPc := hP.sub (ws' := [(ma 0, .inr (11, [.ref (ma 1), .ref (ma 2), .int 0, .long 0, .long 1, .ref (ma 3), .ref (ma 4), .ref (ma 5), .ref (ma 6), .ref (ma 7), .int 0, .int 0, .int 0, .int 0, .int 0, .int 0, .int (-1), .int (-1), .int 0, .int 0, .int 0, .ref (ma 8), .int 0, .int 0, .int (-1), .int 0, .int 0, .int 0, .ref (ma 9), .int 0, .int 0, .ref (ma 10), .ref (ma 11), .ref (ma 12), .int 0, .int 0]))]) [0] rfl
  have hDc := hD.sub (ws' := [(ma 0, .inr (11, [.ref (ma 1), .ref (ma 2), .int 0, .long 0, .long 1, .ref (ma 3), .ref (ma 4), .ref (ma 5), .ref (ma 6), .ref (ma 7), .int 0, .int 0, .int 0, .int 0, .int 0, .int 0, .int (-1), .int (-1), .int 0, .int 0, .int 0, .ref (ma 8), .int 0, .int 0, .int (-1), .int 0, .int 0, .int 0, .ref (ma 9), .int 0, .int 0, .ref (ma 10), .ref (ma 11), .ref (ma 12), .int 0, .int 0]))]) [0] (by decide) rfl
  have hFc := va_free (wc := [(ma 0, .inr (11, [.ref (ma 1), .ref (ma 2), .int 0, .long 0, .long 1, .ref (ma 3), .ref (ma 4), .ref (ma 5), .ref (ma 6), .ref (ma 7), .int 0, .int 0, .int 0, .int 0, .int 0, .int 0, .int (-1), .int (-1), .int 0, .int 0, .int 0, .ref (ma 8), .int 0, .int 0, .int (-1), .int 0, .int 0, .int 0, .ref (ma 9), .int 0, .int 0, .ref (ma 10), .ref (ma 11), .ref (ma 12), .int 0, .int 0]))]) hD hS hA [0] rfl
  refine va_calli (va_runV (As := [.int (-1)]) (rest := []) ⟨hx, hb, hml, hown, hts⟩ (m_orNone l D kc s.heap.size ma 0 0 1 0 0 0 0 0 0 (-1) (-1) 0 0 0 0 0 (-1) 0 0 0 0 0 0 0 (-1)) (cwV 1 hts gq_closest_344_m_orNone rfl rfl rfl (by decide +kernel) ⟨Nat.le_of_ble_eq_true rfl, Nat.le_of_ble_eq_true rfl⟩) (preV_ok hPc hDc hE (ci := 11) (q0 := 0) rfl rfl) rfl rfl hl.1 rfl (lv_room (Nat.le_of_ble_eq_true rfl)) dX12_closest_112 ⟨Nat.le_of_ble_eq_true rfl, Nat.le_of_ble_eq_true rfl⟩) hS (fun q _ h => hFc q h) hFc (fun r_112 u9 t9 H locs ht hvm hw hB hz1 hk1 hS => ?_)
  obtain ⟨hP, hD⟩ := va_join (wr := [(ma 1, .inl (kc 0, 2880, .inl at0))]) (w1 := []) hP hD [0] [1] rfl rfl (by decide) (by decide) hk1 hFc (fun _ _ h => by simp at h) ⟨fun _ _ _ _ h => by simp at h, fun _ _ h => by simp at h⟩
  have hP : va_P D vwCl [(ma 1, .inl (kc 0, 2880, .inl at0))] H := hP
  have hD : va_D A [(ma 1, .inl (kc 0, 2880, .inl at0))] := hD
  subst hw
  exact W.iret (v := (-1)) hx hb hr (fun t9 ht hW => ⟨⟨(-1), (), rfl, rfl, trivial⟩, hS.F ht⟩) hS.2.2 dX12_closest_115
theorem dX12_best_0 : decode cX12_best 0 = .ok (.iload_n 1, 1) := by decide +kernel
theorem dX12_best_1 : decode cX12_best 1 = .ok (.i2l, 1) := by decide +kernel
theorem dX12_best_2 : decode cX12_best 2 = .ok (.lconst 1, 1) := by decide +kernel
theorem dX12_best_3 : decode cX12_best 3 = .ok (.ldc2_w 296, 3) := by decide +kernel
theorem dX12_best_6 : decode cX12_best 6 = .ok (.invokestatic 298, 3) := by decide +kernel
theorem dX12_best_9 : decode cX12_best 9 = .ok (.ifCond .ne 9, 3) := by decide +kernel
theorem dX12_best_18 : decode cX12_best 18 = .ok (.aload_n 0, 1) := by decide +kernel
theorem dX12_best_19 : decode cX12_best 19 = .ok (.iconst 0, 1) := by decide +kernel
theorem dX12_best_20 : decode cX12_best 20 = .ok (.invokevirtual 293, 3) := by decide +kernel
theorem dX12_best_23 : decode cX12_best 23 = .ok (.istore_n 2, 1) := by decide +kernel
theorem dX12_best_24 : decode cX12_best 24 = .ok (.iconst (-1), 1) := by decide +kernel
theorem dX12_best_25 : decode cX12_best 25 = .ok (.istore_n 3, 1) := by decide +kernel
theorem dX12_best_26 : decode cX12_best 26 = .ok (.iconst 0, 1) := by decide +kernel
theorem dX12_best_27 : decode cX12_best 27 = .ok (.istore 4, 2) := by decide +kernel
theorem dX12_best_29 : decode cX12_best 29 = .ok (.iconst 0, 1) := by decide +kernel
theorem dX12_best_30 : decode cX12_best 30 = .ok (.istore 5, 2) := by decide +kernel
theorem dX12_best_32 : decode cX12_best 32 = .ok (.iload 5, 2) := by decide +kernel
theorem dX12_best_34 : decode cX12_best 34 = .ok (.aload_n 0, 1) := by decide +kernel
theorem dX12_best_35 : decode cX12_best 35 = .ok (.getfield 7, 3) := by decide +kernel
theorem dX12_best_38 : decode cX12_best 38 = .ok (.iconst 0, 1) := by decide +kernel
theorem dX12_best_39 : decode cX12_best 39 = .ok (.iaload, 1) := by decide +kernel
theorem dX12_best_40 : decode cX12_best 40 = .ok (.if_icmp .ge 80, 3) := by decide +kernel
theorem dX12_best_120 : decode cX12_best 120 = .ok (.aload_n 0, 1) := by decide +kernel
theorem dX12_best_121 : decode cX12_best 121 = .ok (.iload_n 3, 1) := by decide +kernel
theorem dX12_best_122 : decode cX12_best 122 = .ok (.invokevirtual 344, 3) := by decide +kernel
theorem dX12_best_125 : decode cX12_best 125 = .ok (.ireturn, 1) := by decide +kernel
theorem dX12_best_12 : decode cX12_best 12 = .ok (.aload_n 0, 1) := by decide +kernel
theorem dX12_best_13 : decode cX12_best 13 = .ok (.iconst 1, 1) := by decide +kernel
theorem dX12_best_14 : decode cX12_best 14 = .ok (.invokevirtual 72, 3) := by decide +kernel
theorem dX12_best_17 : decode cX12_best 17 = .ok (.ireturn, 1) := by decide +kernel
def vdq_best : List Cond := [.code yX12_best cX12_best 7 (some .int), .constantLong RX12 296 (999), .methodLink RX12 298 yX12_isFrom, .code yX12_isFrom cX12_isFrom 6 (some .boolean), .static yX12_isFrom, .initialized RX12, .methodLink RX12 293 yX12_setOf, .code yX12_setOf cX12_setOf 5 (some .int), .fieldLink RX12 7 "SaltStreetModel" "at" "[I", .instanceMethod yX12_setOf, .selects RX12 yX12_setOf yX12_setOf, .methodLink RX12 344 yX12_orNone, .code yX12_orNone cX12_orNone 2 (some .int), .methodLink RX12 76 yX12_gives, .code yX12_gives cX12_gives 2 (some .int), .fieldLink RX12 66 "SaltStreetModel" "status" "I", .instanceMethod yX12_gives, .selects RX12 yX12_gives yX12_gives, .methodLink RX12 72 yX12_refuse, .code yX12_refuse cX12_refuse 2 (some .int), .instanceMethod yX12_refuse, .selects RX12 yX12_refuse yX12_refuse, .instanceMethod yX12_orNone, .selects RX12 yX12_orNone yX12_orNone]
def vq_best : List Cond := vdq_best ++ (wsX120 ++ ([] : List Cond))
theorem iq_best_X12 : ∀ w ∈ wsX120, w ∈ vq_best := fun _ h => List.mem_append_right _ (List.mem_append_left _ h)
set_option maxRecDepth 20000 in
theorem gq_best_298_m_isFrom : GoodIn vq_best (va_wsS RX12 298 yX12_isFrom vm_isFrom) := (goodIn_app (goodIn_r _ [2, 4, 5] rfl (by decide +kernel)) (goodIn_app (goodIn_r vdm_isFrom [3] rfl (by decide +kernel)) goodIn_nil))
set_option maxRecDepth 20000 in
theorem gq_best_293_m_setOf : GoodIn vq_best (wsV RX12 293 RX12 yX12_setOf vm_setOf) := (goodIn_app (goodIn_r _ [6, 9, 10, 5] rfl (by decide +kernel)) (goodIn_app (goodIn_r vdm_setOf [7, 8] rfl (by decide +kernel)) (goodIn_app (goodIn_sub iq_best_X12 gdX12) goodIn_nil)))
set_option maxRecDepth 20000 in
theorem gq_best_344_m_orNone : GoodIn vq_best (wsV RX12 344 RX12 yX12_orNone vm_orNone) := (goodIn_app (goodIn_r _ [11, 22, 23, 5] rfl (by decide +kernel)) (goodIn_app (goodIn_r vdm_orNone [12, 13, 14, 15, 16, 17, 5, 18, 19, 20, 21] rfl (by decide +kernel)) (goodIn_app (goodIn_sub iq_best_X12 gdX12) goodIn_nil)))
set_option maxRecDepth 20000 in
theorem gq_best_72_m_refuse : GoodIn vq_best (wsV RX12 72 RX12 yX12_refuse vm_refuse) := (goodIn_app (goodIn_r _ [18, 20, 21, 5] rfl (by decide +kernel)) (goodIn_app (goodIn_r vdm_refuse [19, 15] rfl (by decide +kernel)) (goodIn_app (goodIn_sub iq_best_X12 gdX12) goodIn_nil)))
set_option maxHeartbeats 4000000 in
set_option maxRecDepth 100000 in
theorem q_best (l : Launch) (D : va_G) (kc : Nat → ClassId) (sz : Nat) (ma : Nat → Nat) (a0 : Int32) : Met l yX12_best vq_best ({ frames := 2, cells := 0, slots := 0, locals := 42 }) (va_Pc [.ref (ma 0), .int a0] (wPre D kc [(ma 0, .inr (11, [.ref (ma 1), .ref (ma 2), .int 0, .long 0, .long 1, .ref (ma 3), .ref (ma 4), .ref (ma 5), .ref (ma 6), .ref (ma 7), .int 0, .int 0, .int 0, .int 0, .int 0, .int 0, .int (-1), .int (-1), .int 0, .int 0, .int 0, .ref (ma 8), .int 0, .int 0, .int (-1), .int 0, .int 0, .int 0, .ref (ma 9), .int 0, .int 0, .ref (ma 10), .ref (ma 11), .ref (ma 12), .int 0, .int 0])), (ma 1, .inl (kc 0, 2880, .inl at0))] sz)) (va_Qi (fun (r : Int32) (_ : Unit) => r = (-1)) wAny (va_A [(ma 0, .inr (11, [.ref (ma 1), .ref (ma 2), .int 0, .long 0, .long 1, .ref (ma 3), .ref (ma 4), .ref (ma 5), .ref (ma 6), .ref (ma 7), .int 0, .int 0, .int 0, .int 0, .int 0, .int 0, .int (-1), .int (-1), .int 0, .int 0, .int 0, .ref (ma 8), .int 0, .int 0, .int (-1), .int 0, .int 0, .int 0, .ref (ma 9), .int 0, .int 0, .ref (ma 10), .ref (ma 11), .ref (ma 12), .int 0, .int 0])), (ma 1, .inl (kc 0, 2880, .inl at0))] sz)) 0 0 (va_A [(ma 0, .inr (11, [.ref (ma 1), .ref (ma 2), .int 0, .long 0, .long 1, .ref (ma 3), .ref (ma 4), .ref (ma 5), .ref (ma 6), .ref (ma 7), .int 0, .int 0, .int 0, .int 0, .int 0, .int 0, .int (-1), .int (-1), .int 0, .int 0, .int 0, .ref (ma 8), .int 0, .int 0, .int (-1), .int 0, .int 0, .int 0, .ref (ma 9), .int 0, .int 0, .ref (ma 10), .ref (ma 11), .ref (ma 12), .int 0, .int 0])), (ma 1, .inl (kc 0, 2880, .inl at0))] sz) := by
  refine Met.ofW (cc := cX12_best) (maxL := 7) (ret := (some .int)) (by decide) rfl ?_
  intro p e s m args below meth c s₁ B hml hv
  obtain ⟨rfl, hsz, hP, hE, hD0⟩ := hv
  have hx := B.exec
  have hb := B.bytes
  have hr := B.returns
  have hts := atoms_spec (ws := vq_best) B.pre
  have hown : s.vm.findClass RX12 = some m.cls := findClass_of_methodNamed B.named
  have hlocks := B.notSynchronized
  subst hsz
  have hD := hD0.self (sz := s.heap.size)
  generalize hAe : va_A [(ma 0, .inr (11, [.ref (ma 1), .ref (ma 2), .int 0, .long 0, .long 1, .ref (ma 3), .ref (ma 4), .ref (ma 5), .ref (ma 6), .ref (ma 7), .int 0, .int 0, .int 0, .int 0, .int 0, .int 0, .int (-1), .int (-1), .int 0, .int 0, .int 0, .ref (ma 8), .int 0, .int 0, .int (-1), .int 0, .int 0, .int 0, .ref (ma 9), .int 0, .int 0, .ref (ma 10), .ref (ma 11), .ref (ma 12), .int 0, .int 0])), (ma 1, .inl (kc 0, 2880, .inl at0))] s.heap.size = A at hD ⊢
  have hA : ∀ q : Nat, s.heap.size ≤ q → A q := fun q h => by rw [← hAe]; exact Or.inr h
  have hS : va_S A s.heap s.heap [] := va_S.rf
  have hK := hE.1
  have hP : va_P D vwCl [(ma 0, .inr (11, [.ref (ma 1), .ref (ma 2), .int 0, .long 0, .long 1, .ref (ma 3), .ref (ma 4), .ref (ma 5), .ref (ma 6), .ref (ma 7), .int 0, .int 0, .int 0, .int 0, .int 0, .int 0, .int (-1), .int (-1), .int 0, .int 0, .int 0, .ref (ma 8), .int 0, .int 0, .int (-1), .int 0, .int 0, .int 0, .ref (ma 9), .int 0, .int 0, .ref (ma 10), .ref (ma 11), .ref (ma 12), .int 0, .int 0])), (ma 1, .inl (kc 0, 2880, .inl at0))] s.heap := hP
  have hl := lv_entry ([.ref (ma 0), .int a0]) (n := 7) (Nat.le_of_ble_eq_true rfl)
  rw [lg_entry_eq]
  generalize (lg_sl ([.ref (ma 0), .int a0]) ++ List.replicate (7 - (lg_sl ([.ref (ma 0), .int a0])).length) Slot.unset).toArray = ls at hl ⊢
  have hl : lv_has ls 7 [(0, .ref (ma 0)), (1, .int a0)] := hl
  refine lv_iload_n hx hb dX12_best_0 rfl (lv_at hl 1 rfl) ?_
  refine lv_i2l (v := (a0.toInt64)) hx hb dX12_best_1 rfl ?_
  refine lv_lconst (v := 1) hx hb dX12_best_2 (by decide) ?_
  refine lv_ldc2 (v := 999) hx hb hown (hts (.constantLong RX12 296 (999)) (List.mem_of_getElem? (i := 1) rfl)) dX12_best_3 ?_
  have hPc := hP.sub (ws' := []) [] rfl
  have hDc := hD.sub (ws' := []) [] (by decide) rfl
  have hFc := va_free (wc := []) hD hS hA [] rfl
  refine va_calli (va_runS (As := [.long (a0.toInt64), .long 1, .long 999]) (rest := []) ⟨hx, hb, hml, hown, hts⟩ (m_isFrom l D kc s.heap.size (a0.toInt64) 1 999) (va_cwS 3 hts gq_best_298_m_isFrom rfl rfl rfl (by decide +kernel) ⟨Nat.le_of_ble_eq_true rfl, Nat.le_of_ble_eq_true rfl⟩) (preS_ok hPc hDc hE) rfl rfl hl.1 rfl (lv_room (Nat.le_of_ble_eq_true rfl)) dX12_best_6 ⟨Nat.le_of_ble_eq_true rfl, Nat.le_of_ble_eq_true rfl⟩) hS (fun q _ h => hFc q h) hFc (fun r_6 u9 t9 H locs ht hvm hw hB hz1 hk1 hS => ?_)
  obtain ⟨hP1, hD1⟩ := hB
  rw [ht] at hP1
  obtain ⟨hP, hD⟩ := va_join (wr := [(ma 0, .inr (11, [.ref (ma 1), .ref (ma 2), .int 0, .long 0, .long 1, .ref (ma 3), .ref (ma 4), .ref (ma 5), .ref (ma 6), .ref (ma 7), .int 0, .int 0, .int 0, .int 0, .int 0, .int 0, .int (-1), .int (-1), .int 0, .int 0, .int 0, .ref (ma 8), .int 0, .int 0, .int (-1), .int 0, .int 0, .int 0, .ref (ma 9), .int 0, .int 0, .ref (ma 10), .ref (ma 11), .ref (ma 12), .int 0, .int 0])), (ma 1, .inl (kc 0, 2880, .inl at0))]) (w1 := []) hP hD [] [0, 1] rfl rfl (by decide) (by decide) hk1 hFc hP1 hD1
  have hP : va_P D vwCl [(ma 0, .inr (11, [.ref (ma 1), .ref (ma 2), .int 0, .long 0, .long 1, .ref (ma 3), .ref (ma 4), .ref (ma 5), .ref (ma 6), .ref (ma 7), .int 0, .int 0, .int 0, .int 0, .int 0, .int 0, .int (-1), .int (-1), .int 0, .int 0, .int 0, .ref (ma 8), .int 0, .int 0, .int (-1), .int 0, .int 0, .int 0, .ref (ma 9), .int 0, .int 0, .ref (ma 10), .ref (ma 11), .ref (ma 12), .int 0, .int 0])), (ma 1, .inl (kc 0, 2880, .inl at0))] H := hP
  have hD : va_D A [(ma 0, .inr (11, [.ref (ma 1), .ref (ma 2), .int 0, .long 0, .long 1, .ref (ma 3), .ref (ma 4), .ref (ma 5), .ref (ma 6), .ref (ma 7), .int 0, .int 0, .int 0, .int 0, .int 0, .int 0, .int (-1), .int (-1), .int 0, .int 0, .int 0, .ref (ma 8), .int 0, .int 0, .int (-1), .int 0, .int 0, .int 0, .ref (ma 9), .int 0, .int 0, .ref (ma 10), .ref (ma 11), .ref (ma 12), .int 0, .int 0])), (ma 1, .inl (kc 0, 2880, .inl at0))] := hD
  subst hw
  refine lv_if_ne (tgt := 18) hx hb dX12_best_9 (by decide) (fun c_9 => ?_) (fun c_9 => ?_)
  · refine lv_aload_n hx hb dX12_best_18 rfl (lv_at hl 0 rfl) ?_
    refine lv_iconst (v := 0) hx hb dX12_best_19 (by decide) ?_
    have hPc := hP.sub (ws' := [(ma 0, .inr (11, [.ref (ma 1), .ref (ma 2), .int 0, .long 0, .long 1, .ref (ma 3), .ref (ma 4), .ref (ma 5), .ref (ma 6), .ref (ma 7), .int 0, .int 0, .int 0, .int 0, .int 0, .int 0, .int (-1), .int (-1), .int 0, .int 0, .int 0, .ref (ma 8), .int 0, .int 0, .int (-1), .int 0, .int 0, .int 0, .ref (ma 9), .int 0, .int 0, .ref (ma 10), .ref (ma 11), .ref (ma 12), .int 0, .int 0])), (ma 1, .inl (kc 0, 2880, .inl at0))]) [0, 1] rfl
    have hDc := hD.sub (ws' := [(ma 0, .inr (11, [.ref (ma 1), .ref (ma 2), .int 0, .long 0, .long 1, .ref (ma 3), .ref (ma 4), .ref (ma 5), .ref (ma 6), .ref (ma 7), .int 0, .int 0, .int 0, .int 0, .int 0, .int 0, .int (-1), .int (-1), .int 0, .int 0, .int 0, .ref (ma 8), .int 0, .int 0, .int (-1), .int 0, .int 0, .int 0, .ref (ma 9), .int 0, .int 0, .ref (ma 10), .ref (ma 11), .ref (ma 12), .int 0, .int 0])), (ma 1, .inl (kc 0, 2880, .inl at0))]) [0, 1] (by decide) rfl
    have hFc := va_free (wc := [(ma 0, .inr (11, [.ref (ma 1), .ref (ma 2), .int 0, .long 0, .long 1, .ref (ma 3), .ref (ma 4), .ref (ma 5), .ref (ma 6), .ref (ma 7), .int 0, .int 0, .int 0, .int 0, .int 0, .int 0, .int (-1), .int (-1), .int 0, .int 0, .int 0, .ref (ma 8), .int 0, .int 0, .int (-1), .int 0, .int 0, .int 0, .ref (ma 9), .int 0, .int 0, .ref (ma 10), .ref (ma 11), .ref (ma 12), .int 0, .int 0])), (ma 1, .inl (kc 0, 2880, .inl at0))]) hD hS hA [0, 1] rfl
    refine va_calli (va_runV (As := [.int 0]) (rest := []) ⟨hx, hb, hml, hown, hts⟩ (m_setOf l D kc H.size ma 0) (cwV 1 hts gq_best_293_m_setOf rfl rfl rfl (by decide +kernel) ⟨Nat.le_of_ble_eq_true rfl, Nat.le_of_ble_eq_true rfl⟩) (preV_ok hPc hDc hE (ci := 11) (q0 := 0) rfl rfl) rfl rfl hl.1 rfl (lv_room (Nat.le_of_ble_eq_true rfl)) dX12_best_20 ⟨Nat.le_of_ble_eq_true rfl, Nat.le_of_ble_eq_true rfl⟩) hS (fun q _ h => hFc q h) hFc (fun r_20_1 u9 t9 H locs ht hvm hw hB hz1 hk1 hS => ?_)
    obtain ⟨hP1, hD1⟩ := hB
    rw [ht] at hP1
    obtain ⟨hP, hD⟩ := va_join (wr := []) (w1 := [(ma 0, .inr (11, [.ref (ma 1), .ref (ma 2), .int 0, .long 0, .long 1, .ref (ma 3), .ref (ma 4), .ref (ma 5), .ref (ma 6), .ref (ma 7), .int 0, .int 0, .int 0, .int 0, .int 0, .int 0, .int (-1), .int (-1), .int 0, .int 0, .int 0, .ref (ma 8), .int 0, .int 0, .int (-1), .int 0, .int 0, .int 0, .ref (ma 9), .int 0, .int 0, .ref (ma 10), .ref (ma 11), .ref (ma 12), .int 0, .int 0])), (ma 1, .inl (kc 0, 2880, .inl at0))]) hP hD [0, 1] [] rfl rfl (by decide) (by decide) hk1 hFc hP1 hD1
    have hP : va_P D vwCl [(ma 0, .inr (11, [.ref (ma 1), .ref (ma 2), .int 0, .long 0, .long 1, .ref (ma 3), .ref (ma 4), .ref (ma 5), .ref (ma 6), .ref (ma 7), .int 0, .int 0, .int 0, .int 0, .int 0, .int 0, .int (-1), .int (-1), .int 0, .int 0, .int 0, .ref (ma 8), .int 0, .int 0, .int (-1), .int 0, .int 0, .int 0, .ref (ma 9), .int 0, .int 0, .ref (ma 10), .ref (ma 11), .ref (ma 12), .int 0, .int 0])), (ma 1, .inl (kc 0, 2880, .inl at0))] H := hP
    have hD : va_D A [(ma 0, .inr (11, [.ref (ma 1), .ref (ma 2), .int 0, .long 0, .long 1, .ref (ma 3), .ref (ma 4), .ref (ma 5), .ref (ma 6), .ref (ma 7), .int 0, .int 0, .int 0, .int 0, .int 0, .int 0, .int (-1), .int (-1), .int 0, .int 0, .int 0, .ref (ma 8), .int 0, .int 0, .int (-1), .int 0, .int 0, .int 0, .ref (ma 9), .int 0, .int 0, .ref (ma 10), .ref (ma 11), .ref (ma 12), .int 0, .int 0])), (ma 1, .inl (kc 0, 2880, .inl at0))] := hD
    subst hw
    refine lv_istore_n (lv' := [(2, .int 0), (0, .ref (ma 0)), (1, .int a0)]) hx hb dX12_best_23 rfl hl (by decide) rfl (fun ls hl => ?_)
    refine lv_iconst (v := (-1)) hx hb dX12_best_24 (by decide) ?_
    refine lv_istore_n (lv' := [(3, .int (-1)), (2, .int 0), (0, .ref (ma 0)), (1, .int a0)]) hx hb dX12_best_25 rfl hl (by decide) rfl (fun ls hl => ?_)
    refine lv_iconst (v := 0) hx hb dX12_best_26 (by decide) ?_
    refine lv_istore (lv' := [(4, .int 0), (3, .int (-1)), (2, .int 0), (0, .ref (ma 0)), (1, .int a0)]) hx hb dX12_best_27 hl (by decide) rfl (fun ls hl => ?_)
    refine lv_iconst (v := 0) hx hb dX12_best_29 (by decide) ?_
    refine lv_istore (lv' := [(5, .int 0), (4, .int 0), (3, .int (-1)), (2, .int 0), (0, .ref (ma 0)), (1, .int a0)]) hx hb dX12_best_30 hl (by decide) rfl (fun ls hl => ?_)
    refine lv_iload hx hb dX12_best_32 (lv_at hl 0 rfl) ?_
    refine lv_aload_n hx hb dX12_best_34 rfl (lv_at hl 4 rfl) ?_
    refine va_get (D := D) (ci := 11) (v := .ref (ma 1)) (C := RX12) (T := TX12) (N := 36) hx hb hts iq_best_X12 hown hK hP 0 rfl rfl 0 (by decide) (hts (.fieldLink RX12 7 "SaltStreetModel" "at" "[I") (List.mem_of_getElem? (i := 8) rfl)) (fun _ h9 => h9) rfl dX12_best_35 ?_
    refine lv_iconst (v := 0) hx hb dX12_best_38 (by decide) ?_
    refine va_iald hx hb hK hP 1 0 (f := at0) rfl rfl (by unfold vp_in; decide) dX12_best_39 ?_
    refine lv_ci (y := 0) (by decide) ?_
    refine lv_icmp_ge (tgt := 120) hx hb dX12_best_40 (by decide) (fun _ => ?_) (fun h => absurd (by decide) h)
    refine lv_aload_n hx hb dX12_best_120 rfl (lv_at hl 4 rfl) ?_
    refine lv_iload_n hx hb dX12_best_121 rfl (lv_at hl 2 rfl) ?_
    have hPc := hP.sub (ws' := [(ma 0, .inr (11, [.ref (ma 1), .ref (ma 2), .int 0, .long 0, .long 1, .ref (ma 3), .ref (ma 4), .ref (ma 5), .ref (ma 6), .ref (ma 7), .int 0, .int 0, .int 0, .int 0, .int 0, .int 0, .int (-1), .int (-1), .int 0, .int 0, .int 0, .ref (ma 8), .int 0, .int 0, .int (-1), .int 0, .int 0, .int 0, .ref (ma 9), .int 0, .int 0, .ref (ma 10), .ref (ma 11), .ref (ma 12), .int 0, .int 0]))]) [0] rfl
    have hDc := hD.sub (ws' := [(ma 0, .inr (11, [.ref (ma 1), .ref (ma 2), .int 0, .long 0, .long 1, .ref (ma 3), .ref (ma 4), .ref (ma 5), .ref (ma 6), .ref (ma 7), .int 0, .int 0, .int 0, .int 0, .int 0, .int 0, .int (-1), .int (-1), .int 0, .int 0, .int 0, .ref (ma 8), .int 0, .int 0, .int (-1), .int 0, .int 0, .int 0, .ref (ma 9), .int 0, .int 0, .ref (ma 10), .ref (ma 11), .ref (ma 12), .int 0, .int 0]))]) [0] (by decide) rfl
    have hFc := va_free (wc := [(ma 0, .inr (11, [.ref (ma 1), .ref (ma 2), .int 0, .long 0, .long 1, .ref (ma 3), .ref (ma 4), .ref (ma 5), .ref (ma 6), .ref (ma 7), .int 0, .int 0, .int 0, .int 0, .int 0, .int 0, .int (-1), .int (-1), .int 0, .int 0, .int 0, .ref (ma 8), .int 0, .int 0, .int (-1), .int 0, .int 0, .int 0, .ref (ma 9), .int 0, .int 0, .ref (ma 10), .ref (ma 11), .ref (ma 12), .int 0, .int 0]))]) hD hS hA [0] rfl
    refine va_calli (va_runV (As := [.int (-1)]) (rest := []) ⟨hx, hb, hml, hown, hts⟩ (m_orNone l D kc H.size ma 0 0 1 0 0 0 0 0 0 (-1) (-1) 0 0 0 0 0 (-1) 0 0 0 0 0 0 0 (-1)) (cwV 1 hts gq_best_344_m_orNone rfl rfl rfl (by decide +kernel) ⟨Nat.le_of_ble_eq_true rfl, Nat.le_of_ble_eq_true rfl⟩) (preV_ok hPc hDc hE (ci := 11) (q0 := 0) rfl rfl) rfl rfl hl.1 rfl (lv_room (Nat.le_of_ble_eq_true rfl)) dX12_best_122 ⟨Nat.le_of_ble_eq_true rfl, Nat.le_of_ble_eq_true rfl⟩) hS (fun q _ h => hFc q h) hFc (fun r_122_1 u9 t9 H locs ht hvm hw hB hz1 hk1 hS => ?_)
    obtain ⟨hP, hD⟩ := va_join (wr := [(ma 1, .inl (kc 0, 2880, .inl at0))]) (w1 := []) hP hD [0] [1] rfl rfl (by decide) (by decide) hk1 hFc (fun _ _ h => by simp at h) ⟨fun _ _ _ _ h => by simp at h, fun _ _ h => by simp at h⟩
    have hP : va_P D vwCl [(ma 1, .inl (kc 0, 2880, .inl at0))] H := hP
    have hD : va_D A [(ma 1, .inl (kc 0, 2880, .inl at0))] := hD
    subst hw
    exact W.iret (v := (-1)) hx hb hr (fun t9 ht hW => ⟨⟨(-1), (), rfl, rfl, trivial⟩, hS.F ht⟩) hS.2.2 dX12_best_125
  · refine lv_aload_n hx hb dX12_best_12 rfl (lv_at hl 0 rfl) ?_
    refine lv_iconst (v := 1) hx hb dX12_best_13 (by decide) ?_
    have hPc := hP.sub (ws' := [(ma 0, .inr (11, [.ref (ma 1), .ref (ma 2), .int 0, .long 0, .long 1, .ref (ma 3), .ref (ma 4), .ref (ma 5), .ref (ma 6), .ref (ma 7), .int 0, .int 0, .int 0, .int 0, .int 0, .int 0, .int (-1), .int (-1), .int 0, .int 0, .int 0, .ref (ma 8), .int 0, .int 0, .int (-1), .int 0, .int 0, .int 0, .ref (ma 9), .int 0, .int 0, .ref (ma 10), .ref (ma 11), .ref (ma 12), .int 0, .int 0]))]) [0] rfl
    have hDc := hD.sub (ws' := [(ma 0, .inr (11, [.ref (ma 1), .ref (ma 2), .int 0, .long 0, .long 1, .ref (ma 3), .ref (ma 4), .ref (ma 5), .ref (ma 6), .ref (ma 7), .int 0, .int 0, .int 0, .int 0, .int 0, .int 0, .int (-1), .int (-1), .int 0, .int 0, .int 0, .ref (ma 8), .int 0, .int 0, .int (-1), .int 0, .int 0, .int 0, .ref (ma 9), .int 0, .int 0, .ref (ma 10), .ref (ma 11), .ref (ma 12), .int 0, .int 0]))]) [0] (by decide) rfl
    have hFc := va_free (wc := [(ma 0, .inr (11, [.ref (ma 1), .ref (ma 2), .int 0, .long 0, .long 1, .ref (ma 3), .ref (ma 4), .ref (ma 5), .ref (ma 6), .ref (ma 7), .int 0, .int 0, .int 0, .int 0, .int 0, .int 0, .int (-1), .int (-1), .int 0, .int 0, .int 0, .ref (ma 8), .int 0, .int 0, .int (-1), .int 0, .int 0, .int 0, .ref (ma 9), .int 0, .int 0, .ref (ma 10), .ref (ma 11), .ref (ma 12), .int 0, .int 0]))]) hD hS hA [0] rfl
    refine va_calli (va_runV (As := [.int 1]) (rest := []) ⟨hx, hb, hml, hown, hts⟩ (m_refuse l D kc H.size ma 0 0 1 0 0 0 0 0 0 (-1) (-1) 0 0 0 0 0 (-1) 0 0 0 0 0 0 0 1) (cwV 1 hts gq_best_72_m_refuse rfl rfl rfl (by decide +kernel) ⟨Nat.le_of_ble_eq_true rfl, Nat.le_of_ble_eq_true rfl⟩) (preV_ok hPc hDc hE (ci := 11) (q0 := 0) rfl rfl) rfl rfl hl.1 rfl (lv_room (Nat.le_of_ble_eq_true rfl)) dX12_best_14 ⟨Nat.le_of_ble_eq_true rfl, Nat.le_of_ble_eq_true rfl⟩) hS (fun q _ h => hFc q h) hFc (fun r_14_1 u9 t9 H locs ht hvm hw hB hz1 hk1 hS => ?_)
    obtain ⟨hP1, hD1⟩ := hB
    rw [ht] at hP1
    obtain ⟨hP, hD⟩ := va_join (wr := [(ma 1, .inl (kc 0, 2880, .inl at0))]) (w1 := [(ma 0, .inr (11, [.ref (ma 1), .ref (ma 2), .int 1, .long 0, .long 1, .ref (ma 3), .ref (ma 4), .ref (ma 5), .ref (ma 6), .ref (ma 7), .int 0, .int 0, .int 0, .int 0, .int 0, .int 0, .int (-1), .int (-1), .int 0, .int 0, .int 0, .ref (ma 8), .int 0, .int 0, .int (-1), .int 0, .int 0, .int 0, .ref (ma 9), .int 0, .int 0, .ref (ma 10), .ref (ma 11), .ref (ma 12), .int 0, .int 0]))]) hP hD [0] [1] rfl rfl (by decide) (by decide) hk1 hFc hP1 hD1
    have hP : va_P D vwCl [(ma 1, .inl (kc 0, 2880, .inl at0)), (ma 0, .inr (11, [.ref (ma 1), .ref (ma 2), .int 1, .long 0, .long 1, .ref (ma 3), .ref (ma 4), .ref (ma 5), .ref (ma 6), .ref (ma 7), .int 0, .int 0, .int 0, .int 0, .int 0, .int 0, .int (-1), .int (-1), .int 0, .int 0, .int 0, .ref (ma 8), .int 0, .int 0, .int (-1), .int 0, .int 0, .int 0, .ref (ma 9), .int 0, .int 0, .ref (ma 10), .ref (ma 11), .ref (ma 12), .int 0, .int 0]))] H := hP
    have hD : va_D A [(ma 1, .inl (kc 0, 2880, .inl at0)), (ma 0, .inr (11, [.ref (ma 1), .ref (ma 2), .int 1, .long 0, .long 1, .ref (ma 3), .ref (ma 4), .ref (ma 5), .ref (ma 6), .ref (ma 7), .int 0, .int 0, .int 0, .int 0, .int 0, .int 0, .int (-1), .int (-1), .int 0, .int 0, .int 0, .ref (ma 8), .int 0, .int 0, .int (-1), .int 0, .int 0, .int 0, .ref (ma 9), .int 0, .int 0, .ref (ma 10), .ref (ma 11), .ref (ma 12), .int 0, .int 0]))] := hD
    subst hw
    exact W.iret (v := (-1)) hx hb hr (fun t9 ht hW => ⟨⟨(-1), (), rfl, rfl, trivial⟩, hS.F ht⟩) hS.2.2 dX12_best_17
theorem dX12_cliff_0 : decode cX12_cliff 0 = .ok (.iconst 0, 1) := by decide +kernel
theorem dX12_cliff_1 : decode cX12_cliff 1 = .ok (.istore_n 1, 1) := by decide +kernel
theorem dX12_cliff_2 : decode cX12_cliff 2 = .ok (.iconst 1, 1) := by decide +kernel
theorem dX12_cliff_3 : decode cX12_cliff 3 = .ok (.istore_n 2, 1) := by decide +kernel
theorem dX12_cliff_4 : decode cX12_cliff 4 = .ok (.iload_n 2, 1) := by decide +kernel
theorem dX12_cliff_5 : decode cX12_cliff 5 = .ok (.aload_n 0, 1) := by decide +kernel
theorem dX12_cliff_6 : decode cX12_cliff 6 = .ok (.getfield 7, 3) := by decide +kernel
theorem dX12_cliff_9 : decode cX12_cliff 9 = .ok (.iconst 0, 1) := by decide +kernel
theorem dX12_cliff_10 : decode cX12_cliff 10 = .ok (.iaload, 1) := by decide +kernel
theorem dX12_cliff_11 : decode cX12_cliff 11 = .ok (.if_icmp .ge 48, 3) := by decide +kernel
theorem dX12_cliff_59 : decode cX12_cliff 59 = .ok (.aload_n 0, 1) := by decide +kernel
theorem dX12_cliff_60 : decode cX12_cliff 60 = .ok (.iload_n 1, 1) := by decide +kernel
theorem dX12_cliff_61 : decode cX12_cliff 61 = .ok (.invokevirtual 76, 3) := by decide +kernel
theorem dX12_cliff_64 : decode cX12_cliff 64 = .ok (.ireturn, 1) := by decide +kernel
def vdq_cliff : List Cond := [.code yX12_cliff cX12_cliff 3 (some .int), .fieldLink RX12 7 "SaltStreetModel" "at" "[I", .methodLink RX12 76 yX12_gives, .code yX12_gives cX12_gives 2 (some .int), .fieldLink RX12 66 "SaltStreetModel" "status" "I", .instanceMethod yX12_gives, .selects RX12 yX12_gives yX12_gives, .initialized RX12]
def vq_cliff : List Cond := vdq_cliff ++ (wsX120 ++ ([] : List Cond))
theorem iq_cliff_X12 : ∀ w ∈ wsX120, w ∈ vq_cliff := fun _ h => List.mem_append_right _ (List.mem_append_left _ h)
set_option maxRecDepth 20000 in
theorem gq_cliff_76_m_gives : GoodIn vq_cliff (wsV RX12 76 RX12 yX12_gives vm_gives) := (goodIn_app (goodIn_r _ [2, 5, 6, 7] rfl (by decide +kernel)) (goodIn_app (goodIn_r vdm_gives [3, 4] rfl (by decide +kernel)) (goodIn_app (goodIn_sub iq_cliff_X12 gdX12) goodIn_nil)))
set_option maxHeartbeats 4000000 in
set_option maxRecDepth 100000 in
theorem q_cliff (l : Launch) (D : va_G) (kc : Nat → ClassId) (sz : Nat) (ma : Nat → Nat) : Met l yX12_cliff vq_cliff ({ frames := 1, cells := 0, slots := 0, locals := 21 }) (va_Pc [.ref (ma 0)] (wPre D kc [(ma 0, .inr (11, [.ref (ma 1), .ref (ma 2), .int 0, .long 0, .long 1, .ref (ma 3), .ref (ma 4), .ref (ma 5), .ref (ma 6), .ref (ma 7), .int 0, .int 0, .int 0, .int 0, .int 0, .int 0, .int (-1), .int (-1), .int 0, .int 0, .int 0, .ref (ma 8), .int 0, .int 0, .int (-1), .int 0, .int 0, .int 0, .ref (ma 9), .int 0, .int 0, .ref (ma 10), .ref (ma 11), .ref (ma 12), .int 0, .int 0])), (ma 1, .inl (kc 0, 2880, .inl at0))] sz)) (va_Qi (fun (r : Int32) (_ : Unit) => r = 0) wAny (va_A [(ma 0, .inr (11, [.ref (ma 1), .ref (ma 2), .int 0, .long 0, .long 1, .ref (ma 3), .ref (ma 4), .ref (ma 5), .ref (ma 6), .ref (ma 7), .int 0, .int 0, .int 0, .int 0, .int 0, .int 0, .int (-1), .int (-1), .int 0, .int 0, .int 0, .ref (ma 8), .int 0, .int 0, .int (-1), .int 0, .int 0, .int 0, .ref (ma 9), .int 0, .int 0, .ref (ma 10), .ref (ma 11), .ref (ma 12), .int 0, .int 0])), (ma 1, .inl (kc 0, 2880, .inl at0))] sz)) 0 0 (va_A [(ma 0, .inr (11, [.ref (ma 1), .ref (ma 2), .int 0, .long 0, .long 1, .ref (ma 3), .ref (ma 4), .ref (ma 5), .ref (ma 6), .ref (ma 7), .int 0, .int 0, .int 0, .int 0, .int 0, .int 0, .int (-1), .int (-1), .int 0, .int 0, .int 0, .ref (ma 8), .int 0, .int 0, .int (-1), .int 0, .int 0, .int 0, .ref (ma 9), .int 0, .int 0, .ref (ma 10), .ref (ma 11), .ref (ma 12), .int 0, .int 0])), (ma 1, .inl (kc 0, 2880, .inl at0))] sz) := by
  refine Met.ofW (cc := cX12_cliff) (maxL := 3) (ret := (some .int)) (by decide) rfl ?_
  intro p e s m args below meth c s₁ B hml hv
  obtain ⟨rfl, hsz, hP, hE, hD0⟩ := hv
  have hx := B.exec
  have hb := B.bytes
  have hr := B.returns
  have hts := atoms_spec (ws := vq_cliff) B.pre
  have hown : s.vm.findClass RX12 = some m.cls := findClass_of_methodNamed B.named
  have hlocks := B.notSynchronized
  subst hsz
  have hD := hD0.self (sz := s.heap.size)
  generalize hAe : va_A [(ma 0, .inr (11, [.ref (ma 1), .ref (ma 2), .int 0, .long 0, .long 1, .ref (ma 3), .ref (ma 4), .ref (ma 5), .ref (ma 6), .ref (ma 7), .int 0, .int 0, .int 0, .int 0, .int 0, .int 0, .int (-1), .int (-1), .int 0, .int 0, .int 0, .ref (ma 8), .int 0, .int 0, .int (-1), .int 0, .int 0, .int 0, .ref (ma 9), .int 0, .int 0, .ref (ma 10), .ref (ma 11), .ref (ma 12), .int 0, .int 0])), (ma 1, .inl (kc 0, 2880, .inl at0))] s.heap.size = A at hD ⊢
  have hA : ∀ q : Nat, s.heap.size ≤ q → A q := fun q h => by rw [← hAe]; exact Or.inr h
  have hS : va_S A s.heap s.heap [] := va_S.rf
  have hK := hE.1
  have hP : va_P D vwCl [(ma 0, .inr (11, [.ref (ma 1), .ref (ma 2), .int 0, .long 0, .long 1, .ref (ma 3), .ref (ma 4), .ref (ma 5), .ref (ma 6), .ref (ma 7), .int 0, .int 0, .int 0, .int 0, .int 0, .int 0, .int (-1), .int (-1), .int 0, .int 0, .int 0, .ref (ma 8), .int 0, .int 0, .int (-1), .int 0, .int 0, .int 0, .ref (ma 9), .int 0, .int 0, .ref (ma 10), .ref (ma 11), .ref (ma 12), .int 0, .int 0])), (ma 1, .inl (kc 0, 2880, .inl at0))] s.heap := hP
  have hl := lv_entry ([.ref (ma 0)]) (n := 3) (Nat.le_of_ble_eq_true rfl)
  rw [lg_entry_eq]
  generalize (lg_sl ([.ref (ma 0)]) ++ List.replicate (3 - (lg_sl ([.ref (ma 0)])).length) Slot.unset).toArray = ls at hl ⊢
  have hl : lv_has ls 3 [(0, .ref (ma 0))] := hl
  refine lv_iconst (v := 0) hx hb dX12_cliff_0 (by decide) ?_
  refine lv_istore_n (lv' := [(1, .int 0), (0, .ref (ma 0))]) hx hb dX12_cliff_1 rfl hl (by decide) rfl (fun ls hl => ?_)
  refine lv_iconst (v := 1) hx hb dX12_cliff_2 (by decide) ?_
  refine lv_istore_n (lv' := [(2, .int 1), (1, .int 0), (0, .ref (ma 0))]) hx hb dX12_cliff_3 rfl hl (by decide) rfl (fun ls hl => ?_)
  refine lv_iload_n hx hb dX12_cliff_4 rfl (lv_at hl 0 rfl) ?_
  refine lv_aload_n hx hb dX12_cliff_5 rfl (lv_at hl 2 rfl) ?_
  refine va_get (D := D) (ci := 11) (v := .ref (ma 1)) (C := RX12) (T := TX12) (N := 36) hx hb hts iq_cliff_X12 hown hK hP 0 rfl rfl 0 (by decide) (hts (.fieldLink RX12 7 "SaltStreetModel" "at" "[I") (List.mem_of_getElem? (i := 1) rfl)) (fun _ h9 => h9) rfl dX12_cliff_6 ?_
  refine lv_iconst (v := 0) hx hb dX12_cliff_9 (by decide) ?_
  refine va_iald hx hb hK hP 1 0 (f := at0) rfl rfl (by unfold vp_in; decide) dX12_cliff_10 ?_
  refine lv_ci (y := 0) (by decide) ?_
  refine lv_icmp_ge (tgt := 59) hx hb dX12_cliff_11 (by decide) (fun _ => ?_) (fun h => absurd (by decide) h)
  refine lv_aload_n hx hb dX12_cliff_59 rfl (lv_at hl 2 rfl) ?_
  refine lv_iload_n hx hb dX12_cliff_60 rfl (lv_at hl 1 rfl) ?_
  have hPc := hP.sub (ws' := [(ma 0, .inr (11, [.ref (ma 1), .ref (ma 2), .int 0, .long 0, .long 1, .ref (ma 3), .ref (ma 4), .ref (ma 5), .ref (ma 6), .ref (ma 7), .int 0, .int 0, .int 0, .int 0, .int 0, .int 0, .int (-1), .int (-1), .int 0, .int 0, .int 0, .ref (ma 8), .int 0, .int 0, .int (-1), .int 0, .int 0, .int 0, .ref (ma 9), .int 0, .int 0, .ref (ma 10), .ref (ma 11), .ref (ma 12), .int 0, .int 0]))]) [0] rfl
  have hDc := hD.sub (ws' := [(ma 0, .inr (11, [.ref (ma 1), .ref (ma 2), .int 0, .long 0, .long 1, .ref (ma 3), .ref (ma 4), .ref (ma 5), .ref (ma 6), .ref (ma 7), .int 0, .int 0, .int 0, .int 0, .int 0, .int 0, .int (-1), .int (-1), .int 0, .int 0, .int 0, .ref (ma 8), .int 0, .int 0, .int (-1), .int 0, .int 0, .int 0, .ref (ma 9), .int 0, .int 0, .ref (ma 10), .ref (ma 11), .ref (ma 12), .int 0, .int 0]))]) [0] (by decide) rfl
  have hFc := va_free (wc := [(ma 0, .inr (11, [.ref (ma 1), .ref (ma 2), .int 0, .long 0, .long 1, .ref (ma 3), .ref (ma 4), .ref (ma 5), .ref (ma 6), .ref (ma 7), .int 0, .int 0, .int 0, .int 0, .int 0, .int 0, .int (-1), .int (-1), .int 0, .int 0, .int 0, .ref (ma 8), .int 0, .int 0, .int (-1), .int 0, .int 0, .int 0, .ref (ma 9), .int 0, .int 0, .ref (ma 10), .ref (ma 11), .ref (ma 12), .int 0, .int 0]))]) hD hS hA [0] rfl
  refine va_calli (va_runV (As := [.int 0]) (rest := []) ⟨hx, hb, hml, hown, hts⟩ (m_gives l D kc s.heap.size ma 0 0 1 0 0 0 0 0 0 (-1) (-1) 0 0 0 0 0 (-1) 0 0 0 0 0 0 0 0) (cwV 1 hts gq_cliff_76_m_gives rfl rfl rfl (by decide +kernel) ⟨Nat.le_of_ble_eq_true rfl, Nat.le_of_ble_eq_true rfl⟩) (preV_ok hPc hDc hE (ci := 11) (q0 := 0) rfl rfl) rfl rfl hl.1 rfl (lv_room (Nat.le_of_ble_eq_true rfl)) dX12_cliff_61 ⟨Nat.le_of_ble_eq_true rfl, Nat.le_of_ble_eq_true rfl⟩) hS (fun q _ h => hFc q h) hFc (fun r_61 u9 t9 H locs ht hvm hw hB hz1 hk1 hS => ?_)
  obtain ⟨hP1, hD1⟩ := hB
  rw [ht] at hP1
  obtain ⟨hP, hD⟩ := va_join (wr := [(ma 1, .inl (kc 0, 2880, .inl at0))]) (w1 := [(ma 0, .inr (11, [.ref (ma 1), .ref (ma 2), .int 0, .long 0, .long 1, .ref (ma 3), .ref (ma 4), .ref (ma 5), .ref (ma 6), .ref (ma 7), .int 0, .int 0, .int 0, .int 0, .int 0, .int 0, .int (-1), .int (-1), .int 0, .int 0, .int 0, .ref (ma 8), .int 0, .int 0, .int (-1), .int 0, .int 0, .int 0, .ref (ma 9), .int 0, .int 0, .ref (ma 10), .ref (ma 11), .ref (ma 12), .int 0, .int 0]))]) hP hD [0] [1] rfl rfl (by decide) (by decide) hk1 hFc hP1 hD1
  have hP : va_P D vwCl [(ma 1, .inl (kc 0, 2880, .inl at0)), (ma 0, .inr (11, [.ref (ma 1), .ref (ma 2), .int 0, .long 0, .long 1, .ref (ma 3), .ref (ma 4), .ref (ma 5), .ref (ma 6), .ref (ma 7), .int 0, .int 0, .int 0, .int 0, .int 0, .int 0, .int (-1), .int (-1), .int 0, .int 0, .int 0, .ref (ma 8), .int 0, .int 0, .int (-1), .int 0, .int 0, .int 0, .ref (ma 9), .int 0, .int 0, .ref (ma 10), .ref (ma 11), .ref (ma 12), .int 0, .int 0]))] H := hP
  have hD : va_D A [(ma 1, .inl (kc 0, 2880, .inl at0)), (ma 0, .inr (11, [.ref (ma 1), .ref (ma 2), .int 0, .long 0, .long 1, .ref (ma 3), .ref (ma 4), .ref (ma 5), .ref (ma 6), .ref (ma 7), .int 0, .int 0, .int 0, .int 0, .int 0, .int 0, .int (-1), .int (-1), .int 0, .int 0, .int 0, .ref (ma 8), .int 0, .int 0, .int (-1), .int 0, .int 0, .int 0, .ref (ma 9), .int 0, .int 0, .ref (ma 10), .ref (ma 11), .ref (ma 12), .int 0, .int 0]))] := hD
  subst hw
  exact W.iret (v := 0) hx hb hr (fun t9 ht hW => ⟨⟨0, (), rfl, rfl, trivial⟩, hS.F ht⟩) hS.2.2 dX12_cliff_64
theorem dX12_ghosts_0 : decode cX12_ghosts 0 = .ok (.iconst 0, 1) := by decide +kernel
theorem dX12_ghosts_1 : decode cX12_ghosts 1 = .ok (.istore_n 1, 1) := by decide +kernel
theorem dX12_ghosts_2 : decode cX12_ghosts 2 = .ok (.iconst 0, 1) := by decide +kernel
theorem dX12_ghosts_3 : decode cX12_ghosts 3 = .ok (.istore_n 2, 1) := by decide +kernel
theorem dX12_ghosts_4 : decode cX12_ghosts 4 = .ok (.iload_n 2, 1) := by decide +kernel
theorem dX12_ghosts_5 : decode cX12_ghosts 5 = .ok (.aload_n 0, 1) := by decide +kernel
theorem dX12_ghosts_6 : decode cX12_ghosts 6 = .ok (.getfield 7, 3) := by decide +kernel
theorem dX12_ghosts_9 : decode cX12_ghosts 9 = .ok (.iconst 1, 1) := by decide +kernel
theorem dX12_ghosts_10 : decode cX12_ghosts 10 = .ok (.iaload, 1) := by decide +kernel
theorem dX12_ghosts_11 : decode cX12_ghosts 11 = .ok (.if_icmp .ge 53, 3) := by decide +kernel
theorem dX12_ghosts_64 : decode cX12_ghosts 64 = .ok (.aload_n 0, 1) := by decide +kernel
theorem dX12_ghosts_65 : decode cX12_ghosts 65 = .ok (.iload_n 1, 1) := by decide +kernel
theorem dX12_ghosts_66 : decode cX12_ghosts 66 = .ok (.invokevirtual 76, 3) := by decide +kernel
theorem dX12_ghosts_69 : decode cX12_ghosts 69 = .ok (.ireturn, 1) := by decide +kernel
def vdq_ghosts : List Cond := [.code yX12_ghosts cX12_ghosts 3 (some .int), .fieldLink RX12 7 "SaltStreetModel" "at" "[I", .methodLink RX12 76 yX12_gives, .code yX12_gives cX12_gives 2 (some .int), .fieldLink RX12 66 "SaltStreetModel" "status" "I", .instanceMethod yX12_gives, .selects RX12 yX12_gives yX12_gives, .initialized RX12]
def vq_ghosts : List Cond := vdq_ghosts ++ (wsX120 ++ ([] : List Cond))
theorem iq_ghosts_X12 : ∀ w ∈ wsX120, w ∈ vq_ghosts := fun _ h => List.mem_append_right _ (List.mem_append_left _ h)
set_option maxRecDepth 20000 in
theorem gq_ghosts_76_m_gives : GoodIn vq_ghosts (wsV RX12 76 RX12 yX12_gives vm_gives) := (goodIn_app (goodIn_r _ [2, 5, 6, 7] rfl (by decide +kernel)) (goodIn_app (goodIn_r vdm_gives [3, 4] rfl (by decide +kernel)) (goodIn_app (goodIn_sub iq_ghosts_X12 gdX12) goodIn_nil)))
set_option maxHeartbeats 4000000 in
set_option maxRecDepth 100000 in
theorem q_ghosts (l : Launch) (D : va_G) (kc : Nat → ClassId) (sz : Nat) (ma : Nat → Nat) : Met l yX12_ghosts vq_ghosts ({ frames := 1, cells := 0, slots := 0, locals := 21 }) (va_Pc [.ref (ma 0)] (wPre D kc [(ma 0, .inr (11, [.ref (ma 1), .ref (ma 2), .int 0, .long 0, .long 1, .ref (ma 3), .ref (ma 4), .ref (ma 5), .ref (ma 6), .ref (ma 7), .int 0, .int 0, .int 0, .int 0, .int 0, .int 0, .int (-1), .int (-1), .int 0, .int 0, .int 0, .ref (ma 8), .int 0, .int 0, .int (-1), .int 0, .int 0, .int 0, .ref (ma 9), .int 0, .int 0, .ref (ma 10), .ref (ma 11), .ref (ma 12), .int 0, .int 0])), (ma 1, .inl (kc 0, 2880, .inl at0))] sz)) (va_Qi (fun (r : Int32) (_ : Unit) => r = 0) wAny (va_A [(ma 0, .inr (11, [.ref (ma 1), .ref (ma 2), .int 0, .long 0, .long 1, .ref (ma 3), .ref (ma 4), .ref (ma 5), .ref (ma 6), .ref (ma 7), .int 0, .int 0, .int 0, .int 0, .int 0, .int 0, .int (-1), .int (-1), .int 0, .int 0, .int 0, .ref (ma 8), .int 0, .int 0, .int (-1), .int 0, .int 0, .int 0, .ref (ma 9), .int 0, .int 0, .ref (ma 10), .ref (ma 11), .ref (ma 12), .int 0, .int 0])), (ma 1, .inl (kc 0, 2880, .inl at0))] sz)) 0 0 (va_A [(ma 0, .inr (11, [.ref (ma 1), .ref (ma 2), .int 0, .long 0, .long 1, .ref (ma 3), .ref (ma 4), .ref (ma 5), .ref (ma 6), .ref (ma 7), .int 0, .int 0, .int 0, .int 0, .int 0, .int 0, .int (-1), .int (-1), .int 0, .int 0, .int 0, .ref (ma 8), .int 0, .int 0, .int (-1), .int 0, .int 0, .int 0, .ref (ma 9), .int 0, .int 0, .ref (ma 10), .ref (ma 11), .ref (ma 12), .int 0, .int 0])), (ma 1, .inl (kc 0, 2880, .inl at0))] sz) := by
  refine Met.ofW (cc := cX12_ghosts) (maxL := 3) (ret := (some .int)) (by decide) rfl ?_
  intro p e s m args below meth c s₁ B hml hv
  obtain ⟨rfl, hsz, hP, hE, hD0⟩ := hv
  have hx := B.exec
  have hb := B.bytes
  have hr := B.returns
  have hts := atoms_spec (ws := vq_ghosts) B.pre
  have hown : s.vm.findClass RX12 = some m.cls := findClass_of_methodNamed B.named
  have hlocks := B.notSynchronized
  subst hsz
  have hD := hD0.self (sz := s.heap.size)
  generalize hAe : va_A [(ma 0, .inr (11, [.ref (ma 1), .ref (ma 2), .int 0, .long 0, .long 1, .ref (ma 3), .ref (ma 4), .ref (ma 5), .ref (ma 6), .ref (ma 7), .int 0, .int 0, .int 0, .int 0, .int 0, .int 0, .int (-1), .int (-1), .int 0, .int 0, .int 0, .ref (ma 8), .int 0, .int 0, .int (-1), .int 0, .int 0, .int 0, .ref (ma 9), .int 0, .int 0, .ref (ma 10), .ref (ma 11), .ref (ma 12), .int 0, .int 0])), (ma 1, .inl (kc 0, 2880, .inl at0))] s.heap.size = A at hD ⊢
  have hA : ∀ q : Nat, s.heap.size ≤ q → A q := fun q h => by rw [← hAe]; exact Or.inr h
  have hS : va_S A s.heap s.heap [] := va_S.rf
  have hK := hE.1
  have hP : va_P D vwCl [(ma 0, .inr (11, [.ref (ma 1), .ref (ma 2), .int 0, .long 0, .long 1, .ref (ma 3), .ref (ma 4), .ref (ma 5), .ref (ma 6), .ref (ma 7), .int 0, .int 0, .int 0, .int 0, .int 0, .int 0, .int (-1), .int (-1), .int 0, .int 0, .int 0, .ref (ma 8), .int 0, .int 0, .int (-1), .int 0, .int 0, .int 0, .ref (ma 9), .int 0, .int 0, .ref (ma 10), .ref (ma 11), .ref (ma 12), .int 0, .int 0])), (ma 1, .inl (kc 0, 2880, .inl at0))] s.heap := hP
  have hl := lv_entry ([.ref (ma 0)]) (n := 3) (Nat.le_of_ble_eq_true rfl)
  rw [lg_entry_eq]
  generalize (lg_sl ([.ref (ma 0)]) ++ List.replicate (3 - (lg_sl ([.ref (ma 0)])).length) Slot.unset).toArray = ls at hl ⊢
  have hl : lv_has ls 3 [(0, .ref (ma 0))] := hl
  refine lv_iconst (v := 0) hx hb dX12_ghosts_0 (by decide) ?_
  refine lv_istore_n (lv' := [(1, .int 0), (0, .ref (ma 0))]) hx hb dX12_ghosts_1 rfl hl (by decide) rfl (fun ls hl => ?_)
  refine lv_iconst (v := 0) hx hb dX12_ghosts_2 (by decide) ?_
  refine lv_istore_n (lv' := [(2, .int 0), (1, .int 0), (0, .ref (ma 0))]) hx hb dX12_ghosts_3 rfl hl (by decide) rfl (fun ls hl => ?_)
  refine lv_iload_n hx hb dX12_ghosts_4 rfl (lv_at hl 0 rfl) ?_
  refine lv_aload_n hx hb dX12_ghosts_5 rfl (lv_at hl 2 rfl) ?_
  refine va_get (D := D) (ci := 11) (v := .ref (ma 1)) (C := RX12) (T := TX12) (N := 36) hx hb hts iq_ghosts_X12 hown hK hP 0 rfl rfl 0 (by decide) (hts (.fieldLink RX12 7 "SaltStreetModel" "at" "[I") (List.mem_of_getElem? (i := 1) rfl)) (fun _ h9 => h9) rfl dX12_ghosts_6 ?_
  refine lv_iconst (v := 1) hx hb dX12_ghosts_9 (by decide) ?_
  refine va_iald hx hb hK hP 1 0 (f := at0) rfl rfl (by unfold vp_in; decide) dX12_ghosts_10 ?_
  refine lv_ci (y := 0) (by decide) ?_
  refine lv_icmp_ge (tgt := 64) hx hb dX12_ghosts_11 (by decide) (fun _ => ?_) (fun h => absurd (by decide) h)
  refine lv_aload_n hx hb dX12_ghosts_64 rfl (lv_at hl 2 rfl) ?_
  refine lv_iload_n hx hb dX12_ghosts_65 rfl (lv_at hl 1 rfl) ?_
  have hPc := hP.sub (ws' := [(ma 0, .inr (11, [.ref (ma 1), .ref (ma 2), .int 0, .long 0, .long 1, .ref (ma 3), .ref (ma 4), .ref (ma 5), .ref (ma 6), .ref (ma 7), .int 0, .int 0, .int 0, .int 0, .int 0, .int 0, .int (-1), .int (-1), .int 0, .int 0, .int 0, .ref (ma 8), .int 0, .int 0, .int (-1), .int 0, .int 0, .int 0, .ref (ma 9), .int 0, .int 0, .ref (ma 10), .ref (ma 11), .ref (ma 12), .int 0, .int 0]))]) [0] rfl
  have hDc := hD.sub (ws' := [(ma 0, .inr (11, [.ref (ma 1), .ref (ma 2), .int 0, .long 0, .long 1, .ref (ma 3), .ref (ma 4), .ref (ma 5), .ref (ma 6), .ref (ma 7), .int 0, .int 0, .int 0, .int 0, .int 0, .int 0, .int (-1), .int (-1), .int 0, .int 0, .int 0, .ref (ma 8), .int 0, .int 0, .int (-1), .int 0, .int 0, .int 0, .ref (ma 9), .int 0, .int 0, .ref (ma 10), .ref (ma 11), .ref (ma 12), .int 0, .int 0]))]) [0] (by decide) rfl
  have hFc := va_free (wc := [(ma 0, .inr (11, [.ref (ma 1), .ref (ma 2), .int 0, .long 0, .long 1, .ref (ma 3), .ref (ma 4), .ref (ma 5), .ref (ma 6), .ref (ma 7), .int 0, .int 0, .int 0, .int 0, .int 0, .int 0, .int (-1), .int (-1), .int 0, .int 0, .int 0, .ref (ma 8), .int 0, .int 0, .int (-1), .int 0, .int 0, .int 0, .ref (ma 9), .int 0, .int 0, .ref (ma 10), .ref (ma 11), .ref (ma 12), .int 0, .int 0]))]) hD hS hA [0] rfl
  refine va_calli (va_runV (As := [.int 0]) (rest := []) ⟨hx, hb, hml, hown, hts⟩ (m_gives l D kc s.heap.size ma 0 0 1 0 0 0 0 0 0 (-1) (-1) 0 0 0 0 0 (-1) 0 0 0 0 0 0 0 0) (cwV 1 hts gq_ghosts_76_m_gives rfl rfl rfl (by decide +kernel) ⟨Nat.le_of_ble_eq_true rfl, Nat.le_of_ble_eq_true rfl⟩) (preV_ok hPc hDc hE (ci := 11) (q0 := 0) rfl rfl) rfl rfl hl.1 rfl (lv_room (Nat.le_of_ble_eq_true rfl)) dX12_ghosts_66 ⟨Nat.le_of_ble_eq_true rfl, Nat.le_of_ble_eq_true rfl⟩) hS (fun q _ h => hFc q h) hFc (fun r_66 u9 t9 H locs ht hvm hw hB hz1 hk1 hS => ?_)
  obtain ⟨hP1, hD1⟩ := hB
  rw [ht] at hP1
  obtain ⟨hP, hD⟩ := va_join (wr := [(ma 1, .inl (kc 0, 2880, .inl at0))]) (w1 := [(ma 0, .inr (11, [.ref (ma 1), .ref (ma 2), .int 0, .long 0, .long 1, .ref (ma 3), .ref (ma 4), .ref (ma 5), .ref (ma 6), .ref (ma 7), .int 0, .int 0, .int 0, .int 0, .int 0, .int 0, .int (-1), .int (-1), .int 0, .int 0, .int 0, .ref (ma 8), .int 0, .int 0, .int (-1), .int 0, .int 0, .int 0, .ref (ma 9), .int 0, .int 0, .ref (ma 10), .ref (ma 11), .ref (ma 12), .int 0, .int 0]))]) hP hD [0] [1] rfl rfl (by decide) (by decide) hk1 hFc hP1 hD1
  have hP : va_P D vwCl [(ma 1, .inl (kc 0, 2880, .inl at0)), (ma 0, .inr (11, [.ref (ma 1), .ref (ma 2), .int 0, .long 0, .long 1, .ref (ma 3), .ref (ma 4), .ref (ma 5), .ref (ma 6), .ref (ma 7), .int 0, .int 0, .int 0, .int 0, .int 0, .int 0, .int (-1), .int (-1), .int 0, .int 0, .int 0, .ref (ma 8), .int 0, .int 0, .int (-1), .int 0, .int 0, .int 0, .ref (ma 9), .int 0, .int 0, .ref (ma 10), .ref (ma 11), .ref (ma 12), .int 0, .int 0]))] H := hP
  have hD : va_D A [(ma 1, .inl (kc 0, 2880, .inl at0)), (ma 0, .inr (11, [.ref (ma 1), .ref (ma 2), .int 0, .long 0, .long 1, .ref (ma 3), .ref (ma 4), .ref (ma 5), .ref (ma 6), .ref (ma 7), .int 0, .int 0, .int 0, .int 0, .int 0, .int 0, .int (-1), .int (-1), .int 0, .int 0, .int 0, .ref (ma 8), .int 0, .int 0, .int (-1), .int 0, .int 0, .int 0, .ref (ma 9), .int 0, .int 0, .ref (ma 10), .ref (ma 11), .ref (ma 12), .int 0, .int 0]))] := hD
  subst hw
  exact W.iret (v := 0) hx hb hr (fun t9 ht hW => ⟨⟨0, (), rfl, rfl, trivial⟩, hS.F ht⟩) hS.2.2 dX12_ghosts_69
theorem dX12_most_0 : decode cX12_most 0 = .ok (.iconst 0, 1) := by decide +kernel
theorem dX12_most_1 : decode cX12_most 1 = .ok (.istore_n 1, 1) := by decide +kernel
theorem dX12_most_2 : decode cX12_most 2 = .ok (.iconst 1, 1) := by decide +kernel
theorem dX12_most_3 : decode cX12_most 3 = .ok (.istore_n 2, 1) := by decide +kernel
theorem dX12_most_4 : decode cX12_most 4 = .ok (.iload_n 2, 1) := by decide +kernel
theorem dX12_most_5 : decode cX12_most 5 = .ok (.iconst 1, 1) := by decide +kernel
theorem dX12_most_6 : decode cX12_most 6 = .ok (.aload_n 0, 1) := by decide +kernel
theorem dX12_most_7 : decode cX12_most 7 = .ok (.getfield 7, 3) := by decide +kernel
theorem dX12_most_10 : decode cX12_most 10 = .ok (.iconst 1, 1) := by decide +kernel
theorem dX12_most_11 : decode cX12_most 11 = .ok (.iaload, 1) := by decide +kernel
theorem dX12_most_12 : decode cX12_most 12 = .ok (.ishl, 1) := by decide +kernel
theorem dX12_most_13 : decode cX12_most 13 = .ok (.if_icmp .ge 30, 3) := by decide +kernel
theorem dX12_most_43 : decode cX12_most 43 = .ok (.aload_n 0, 1) := by decide +kernel
theorem dX12_most_44 : decode cX12_most 44 = .ok (.iload_n 1, 1) := by decide +kernel
theorem dX12_most_45 : decode cX12_most 45 = .ok (.invokevirtual 76, 3) := by decide +kernel
theorem dX12_most_48 : decode cX12_most 48 = .ok (.ireturn, 1) := by decide +kernel
def vdq_most : List Cond := [.code yX12_most cX12_most 3 (some .int), .fieldLink RX12 7 "SaltStreetModel" "at" "[I", .methodLink RX12 76 yX12_gives, .code yX12_gives cX12_gives 2 (some .int), .fieldLink RX12 66 "SaltStreetModel" "status" "I", .instanceMethod yX12_gives, .selects RX12 yX12_gives yX12_gives, .initialized RX12]
def vq_most : List Cond := vdq_most ++ (wsX120 ++ ([] : List Cond))
theorem iq_most_X12 : ∀ w ∈ wsX120, w ∈ vq_most := fun _ h => List.mem_append_right _ (List.mem_append_left _ h)
set_option maxRecDepth 20000 in
theorem gq_most_76_m_gives : GoodIn vq_most (wsV RX12 76 RX12 yX12_gives vm_gives) := (goodIn_app (goodIn_r _ [2, 5, 6, 7] rfl (by decide +kernel)) (goodIn_app (goodIn_r vdm_gives [3, 4] rfl (by decide +kernel)) (goodIn_app (goodIn_sub iq_most_X12 gdX12) goodIn_nil)))
set_option maxHeartbeats 4000000 in
set_option maxRecDepth 100000 in
theorem q_most (l : Launch) (D : va_G) (kc : Nat → ClassId) (sz : Nat) (ma : Nat → Nat) : Met l yX12_most vq_most ({ frames := 1, cells := 0, slots := 0, locals := 21 }) (va_Pc [.ref (ma 0)] (wPre D kc [(ma 0, .inr (11, [.ref (ma 1), .ref (ma 2), .int 0, .long 0, .long 1, .ref (ma 3), .ref (ma 4), .ref (ma 5), .ref (ma 6), .ref (ma 7), .int 0, .int 0, .int 0, .int 0, .int 0, .int 0, .int (-1), .int (-1), .int 0, .int 0, .int 0, .ref (ma 8), .int 0, .int 0, .int (-1), .int 0, .int 0, .int 0, .ref (ma 9), .int 0, .int 0, .ref (ma 10), .ref (ma 11), .ref (ma 12), .int 0, .int 0])), (ma 1, .inl (kc 0, 2880, .inl at0))] sz)) (va_Qi (fun (r : Int32) (_ : Unit) => r = 0) wAny (va_A [(ma 0, .inr (11, [.ref (ma 1), .ref (ma 2), .int 0, .long 0, .long 1, .ref (ma 3), .ref (ma 4), .ref (ma 5), .ref (ma 6), .ref (ma 7), .int 0, .int 0, .int 0, .int 0, .int 0, .int 0, .int (-1), .int (-1), .int 0, .int 0, .int 0, .ref (ma 8), .int 0, .int 0, .int (-1), .int 0, .int 0, .int 0, .ref (ma 9), .int 0, .int 0, .ref (ma 10), .ref (ma 11), .ref (ma 12), .int 0, .int 0])), (ma 1, .inl (kc 0, 2880, .inl at0))] sz)) 0 0 (va_A [(ma 0, .inr (11, [.ref (ma 1), .ref (ma 2), .int 0, .long 0, .long 1, .ref (ma 3), .ref (ma 4), .ref (ma 5), .ref (ma 6), .ref (ma 7), .int 0, .int 0, .int 0, .int 0, .int 0, .int 0, .int (-1), .int (-1), .int 0, .int 0, .int 0, .ref (ma 8), .int 0, .int 0, .int (-1), .int 0, .int 0, .int 0, .ref (ma 9), .int 0, .int 0, .ref (ma 10), .ref (ma 11), .ref (ma 12), .int 0, .int 0])), (ma 1, .inl (kc 0, 2880, .inl at0))] sz) := by
  refine Met.ofW (cc := cX12_most) (maxL := 3) (ret := (some .int)) (by decide) rfl ?_
  intro p e s m args below meth c s₁ B hml hv
  obtain ⟨rfl, hsz, hP, hE, hD0⟩ := hv
  have hx := B.exec
  have hb := B.bytes
  have hr := B.returns
  have hts := atoms_spec (ws := vq_most) B.pre
  have hown : s.vm.findClass RX12 = some m.cls := findClass_of_methodNamed B.named
  have hlocks := B.notSynchronized
  subst hsz
  have hD := hD0.self (sz := s.heap.size)
  generalize hAe : va_A [(ma 0, .inr (11, [.ref (ma 1), .ref (ma 2), .int 0, .long 0, .long 1, .ref (ma 3), .ref (ma 4), .ref (ma 5), .ref (ma 6), .ref (ma 7), .int 0, .int 0, .int 0, .int 0, .int 0, .int 0, .int (-1), .int (-1), .int 0, .int 0, .int 0, .ref (ma 8), .int 0, .int 0, .int (-1), .int 0, .int 0, .int 0, .ref (ma 9), .int 0, .int 0, .ref (ma 10), .ref (ma 11), .ref (ma 12), .int 0, .int 0])), (ma 1, .inl (kc 0, 2880, .inl at0))] s.heap.size = A at hD ⊢
  have hA : ∀ q : Nat, s.heap.size ≤ q → A q := fun q h => by rw [← hAe]; exact Or.inr h
  have hS : va_S A s.heap s.heap [] := va_S.rf
  have hK := hE.1
  have hP : va_P D vwCl [(ma 0, .inr (11, [.ref (ma 1), .ref (ma 2), .int 0, .long 0, .long 1, .ref (ma 3), .ref (ma 4), .ref (ma 5), .ref (ma 6), .ref (ma 7), .int 0, .int 0, .int 0, .int 0, .int 0, .int 0, .int (-1), .int (-1), .int 0, .int 0, .int 0, .ref (ma 8), .int 0, .int 0, .int (-1), .int 0, .int 0, .int 0, .ref (ma 9), .int 0, .int 0, .ref (ma 10), .ref (ma 11), .ref (ma 12), .int 0, .int 0])), (ma 1, .inl (kc 0, 2880, .inl at0))] s.heap := hP
  have hl := lv_entry ([.ref (ma 0)]) (n := 3) (Nat.le_of_ble_eq_true rfl)
  rw [lg_entry_eq]
  generalize (lg_sl ([.ref (ma 0)]) ++ List.replicate (3 - (lg_sl ([.ref (ma 0)])).length) Slot.unset).toArray = ls at hl ⊢
  have hl : lv_has ls 3 [(0, .ref (ma 0))] := hl
  refine lv_iconst (v := 0) hx hb dX12_most_0 (by decide) ?_
  refine lv_istore_n (lv' := [(1, .int 0), (0, .ref (ma 0))]) hx hb dX12_most_1 rfl hl (by decide) rfl (fun ls hl => ?_)
  refine lv_iconst (v := 1) hx hb dX12_most_2 (by decide) ?_
  refine lv_istore_n (lv' := [(2, .int 1), (1, .int 0), (0, .ref (ma 0))]) hx hb dX12_most_3 rfl hl (by decide) rfl (fun ls hl => ?_)
  refine lv_iload_n hx hb dX12_most_4 rfl (lv_at hl 0 rfl) ?_
  refine lv_iconst (v := 1) hx hb dX12_most_5 (by decide) ?_
  refine lv_aload_n hx hb dX12_most_6 rfl (lv_at hl 2 rfl) ?_
  refine va_get (D := D) (ci := 11) (v := .ref (ma 1)) (C := RX12) (T := TX12) (N := 36) hx hb hts iq_most_X12 hown hK hP 0 rfl rfl 0 (by decide) (hts (.fieldLink RX12 7 "SaltStreetModel" "at" "[I") (List.mem_of_getElem? (i := 1) rfl)) (fun _ h9 => h9) rfl dX12_most_7 ?_
  refine lv_iconst (v := 1) hx hb dX12_most_10 (by decide) ?_
  refine va_iald hx hb hK hP 1 0 (f := at0) rfl rfl (by unfold vp_in; decide) dX12_most_11 ?_
  refine lv_ci (y := 0) (by decide) ?_
  refine lv_ishl hx hb dX12_most_12 ?_
  refine lv_ci (y := 1) (by decide) ?_
  refine lv_icmp_ge (tgt := 43) hx hb dX12_most_13 (by decide) (fun _ => ?_) (fun h => absurd (by decide) h)
  refine lv_aload_n hx hb dX12_most_43 rfl (lv_at hl 2 rfl) ?_
  refine lv_iload_n hx hb dX12_most_44 rfl (lv_at hl 1 rfl) ?_
  have hPc := hP.sub (ws' := [(ma 0, .inr (11, [.ref (ma 1), .ref (ma 2), .int 0, .long 0, .long 1, .ref (ma 3), .ref (ma 4), .ref (ma 5), .ref (ma 6), .ref (ma 7), .int 0, .int 0, .int 0, .int 0, .int 0, .int 0, .int (-1), .int (-1), .int 0, .int 0, .int 0, .ref (ma 8), .int 0, .int 0, .int (-1), .int 0, .int 0, .int 0, .ref (ma 9), .int 0, .int 0, .ref (ma 10), .ref (ma 11), .ref (ma 12), .int 0, .int 0]))]) [0] rfl
  have hDc := hD.sub (ws' := [(ma 0, .inr (11, [.ref (ma 1), .ref (ma 2), .int 0, .long 0, .long 1, .ref (ma 3), .ref (ma 4), .ref (ma 5), .ref (ma 6), .ref (ma 7), .int 0, .int 0, .int 0, .int 0, .int 0, .int 0, .int (-1), .int (-1), .int 0, .int 0, .int 0, .ref (ma 8), .int 0, .int 0, .int (-1), .int 0, .int 0, .int 0, .ref (ma 9), .int 0, .int 0, .ref (ma 10), .ref (ma 11), .ref (ma 12), .int 0, .int 0]))]) [0] (by decide) rfl
  have hFc := va_free (wc := [(ma 0, .inr (11, [.ref (ma 1), .ref (ma 2), .int 0, .long 0, .long 1, .ref (ma 3), .ref (ma 4), .ref (ma 5), .ref (ma 6), .ref (ma 7), .int 0, .int 0, .int 0, .int 0, .int 0, .int 0, .int (-1), .int (-1), .int 0, .int 0, .int 0, .ref (ma 8), .int 0, .int 0, .int (-1), .int 0, .int 0, .int 0, .ref (ma 9), .int 0, .int 0, .ref (ma 10), .ref (ma 11), .ref (ma 12), .int 0, .int 0]))]) hD hS hA [0] rfl
  refine va_calli (va_runV (As := [.int 0]) (rest := []) ⟨hx, hb, hml, hown, hts⟩ (m_gives l D kc s.heap.size ma 0 0 1 0 0 0 0 0 0 (-1) (-1) 0 0 0 0 0 (-1) 0 0 0 0 0 0 0 0) (cwV 1 hts gq_most_76_m_gives rfl rfl rfl (by decide +kernel) ⟨Nat.le_of_ble_eq_true rfl, Nat.le_of_ble_eq_true rfl⟩) (preV_ok hPc hDc hE (ci := 11) (q0 := 0) rfl rfl) rfl rfl hl.1 rfl (lv_room (Nat.le_of_ble_eq_true rfl)) dX12_most_45 ⟨Nat.le_of_ble_eq_true rfl, Nat.le_of_ble_eq_true rfl⟩) hS (fun q _ h => hFc q h) hFc (fun r_45 u9 t9 H locs ht hvm hw hB hz1 hk1 hS => ?_)
  obtain ⟨hP1, hD1⟩ := hB
  rw [ht] at hP1
  obtain ⟨hP, hD⟩ := va_join (wr := [(ma 1, .inl (kc 0, 2880, .inl at0))]) (w1 := [(ma 0, .inr (11, [.ref (ma 1), .ref (ma 2), .int 0, .long 0, .long 1, .ref (ma 3), .ref (ma 4), .ref (ma 5), .ref (ma 6), .ref (ma 7), .int 0, .int 0, .int 0, .int 0, .int 0, .int 0, .int (-1), .int (-1), .int 0, .int 0, .int 0, .ref (ma 8), .int 0, .int 0, .int (-1), .int 0, .int 0, .int 0, .ref (ma 9), .int 0, .int 0, .ref (ma 10), .ref (ma 11), .ref (ma 12), .int 0, .int 0]))]) hP hD [0] [1] rfl rfl (by decide) (by decide) hk1 hFc hP1 hD1
  have hP : va_P D vwCl [(ma 1, .inl (kc 0, 2880, .inl at0)), (ma 0, .inr (11, [.ref (ma 1), .ref (ma 2), .int 0, .long 0, .long 1, .ref (ma 3), .ref (ma 4), .ref (ma 5), .ref (ma 6), .ref (ma 7), .int 0, .int 0, .int 0, .int 0, .int 0, .int 0, .int (-1), .int (-1), .int 0, .int 0, .int 0, .ref (ma 8), .int 0, .int 0, .int (-1), .int 0, .int 0, .int 0, .ref (ma 9), .int 0, .int 0, .ref (ma 10), .ref (ma 11), .ref (ma 12), .int 0, .int 0]))] H := hP
  have hD : va_D A [(ma 1, .inl (kc 0, 2880, .inl at0)), (ma 0, .inr (11, [.ref (ma 1), .ref (ma 2), .int 0, .long 0, .long 1, .ref (ma 3), .ref (ma 4), .ref (ma 5), .ref (ma 6), .ref (ma 7), .int 0, .int 0, .int 0, .int 0, .int 0, .int 0, .int (-1), .int (-1), .int 0, .int 0, .int 0, .ref (ma 8), .int 0, .int 0, .int (-1), .int 0, .int 0, .int 0, .ref (ma 9), .int 0, .int 0, .ref (ma 10), .ref (ma 11), .ref (ma 12), .int 0, .int 0]))] := hD
  subst hw
  exact W.iret (v := 0) hx hb hr (fun t9 ht hW => ⟨⟨0, (), rfl, rfl, trivial⟩, hS.F ht⟩) hS.2.2 dX12_most_48
theorem dX12_level_0 : decode cX12_level 0 = .ok (.iconst 0, 1) := by decide +kernel
theorem dX12_level_1 : decode cX12_level 1 = .ok (.istore_n 1, 1) := by decide +kernel
theorem dX12_level_2 : decode cX12_level 2 = .ok (.iconst 0, 1) := by decide +kernel
theorem dX12_level_3 : decode cX12_level 3 = .ok (.istore_n 2, 1) := by decide +kernel
theorem dX12_level_4 : decode cX12_level 4 = .ok (.iconst 0, 1) := by decide +kernel
theorem dX12_level_5 : decode cX12_level 5 = .ok (.istore_n 3, 1) := by decide +kernel
theorem dX12_level_6 : decode cX12_level 6 = .ok (.iload_n 3, 1) := by decide +kernel
theorem dX12_level_7 : decode cX12_level 7 = .ok (.aload_n 0, 1) := by decide +kernel
theorem dX12_level_8 : decode cX12_level 8 = .ok (.getfield 7, 3) := by decide +kernel
theorem dX12_level_11 : decode cX12_level 11 = .ok (.iconst 0, 1) := by decide +kernel
theorem dX12_level_12 : decode cX12_level 12 = .ok (.iaload, 1) := by decide +kernel
theorem dX12_level_13 : decode cX12_level 13 = .ok (.if_icmp .ge 31, 3) := by decide +kernel
theorem dX12_level_44 : decode cX12_level 44 = .ok (.iload_n 1, 1) := by decide +kernel
theorem dX12_level_45 : decode cX12_level 45 = .ok (.ifCond .ne 9, 3) := by decide +kernel
theorem dX12_level_48 : decode cX12_level 48 = .ok (.aload_n 0, 1) := by decide +kernel
theorem dX12_level_49 : decode cX12_level 49 = .ok (.iconst 0, 1) := by decide +kernel
theorem dX12_level_50 : decode cX12_level 50 = .ok (.invokevirtual 76, 3) := by decide +kernel
theorem dX12_level_53 : decode cX12_level 53 = .ok (.ireturn, 1) := by decide +kernel
def vdq_level : List Cond := [.code yX12_level cX12_level 7 (some .int), .fieldLink RX12 7 "SaltStreetModel" "at" "[I", .methodLink RX12 76 yX12_gives, .code yX12_gives cX12_gives 2 (some .int), .fieldLink RX12 66 "SaltStreetModel" "status" "I", .instanceMethod yX12_gives, .selects RX12 yX12_gives yX12_gives, .initialized RX12]
def vq_level : List Cond := vdq_level ++ (wsX120 ++ ([] : List Cond))
theorem iq_level_X12 : ∀ w ∈ wsX120, w ∈ vq_level := fun _ h => List.mem_append_right _ (List.mem_append_left _ h)
set_option maxRecDepth 20000 in
theorem gq_level_76_m_gives : GoodIn vq_level (wsV RX12 76 RX12 yX12_gives vm_gives) := (goodIn_app (goodIn_r _ [2, 5, 6, 7] rfl (by decide +kernel)) (goodIn_app (goodIn_r vdm_gives [3, 4] rfl (by decide +kernel)) (goodIn_app (goodIn_sub iq_level_X12 gdX12) goodIn_nil)))
set_option maxHeartbeats 4000000 in
set_option maxRecDepth 100000 in
theorem q_level (l : Launch) (D : va_G) (kc : Nat → ClassId) (sz : Nat) (ma : Nat → Nat) : Met l yX12_level vq_level ({ frames := 1, cells := 0, slots := 0, locals := 21 }) (va_Pc [.ref (ma 0)] (wPre D kc [(ma 0, .inr (11, [.ref (ma 1), .ref (ma 2), .int 0, .long 0, .long 1, .ref (ma 3), .ref (ma 4), .ref (ma 5), .ref (ma 6), .ref (ma 7), .int 0, .int 0, .int 0, .int 0, .int 0, .int 0, .int (-1), .int (-1), .int 0, .int 0, .int 0, .ref (ma 8), .int 0, .int 0, .int (-1), .int 0, .int 0, .int 0, .ref (ma 9), .int 0, .int 0, .ref (ma 10), .ref (ma 11), .ref (ma 12), .int 0, .int 0])), (ma 1, .inl (kc 0, 2880, .inl at0))] sz)) (va_Qi (fun (r : Int32) (_ : Unit) => r = 0) wAny (va_A [(ma 0, .inr (11, [.ref (ma 1), .ref (ma 2), .int 0, .long 0, .long 1, .ref (ma 3), .ref (ma 4), .ref (ma 5), .ref (ma 6), .ref (ma 7), .int 0, .int 0, .int 0, .int 0, .int 0, .int 0, .int (-1), .int (-1), .int 0, .int 0, .int 0, .ref (ma 8), .int 0, .int 0, .int (-1), .int 0, .int 0, .int 0, .ref (ma 9), .int 0, .int 0, .ref (ma 10), .ref (ma 11), .ref (ma 12), .int 0, .int 0])), (ma 1, .inl (kc 0, 2880, .inl at0))] sz)) 0 0 (va_A [(ma 0, .inr (11, [.ref (ma 1), .ref (ma 2), .int 0, .long 0, .long 1, .ref (ma 3), .ref (ma 4), .ref (ma 5), .ref (ma 6), .ref (ma 7), .int 0, .int 0, .int 0, .int 0, .int 0, .int 0, .int (-1), .int (-1), .int 0, .int 0, .int 0, .ref (ma 8), .int 0, .int 0, .int (-1), .int 0, .int 0, .int 0, .ref (ma 9), .int 0, .int 0, .ref (ma 10), .ref (ma 11), .ref (ma 12), .int 0, .int 0])), (ma 1, .inl (kc 0, 2880, .inl at0))] sz) := by
  refine Met.ofW (cc := cX12_level) (maxL := 7) (ret := (some .int)) (by decide) rfl ?_
  intro p e s m args below meth c s₁ B hml hv
  obtain ⟨rfl, hsz, hP, hE, hD0⟩ := hv
  have hx := B.exec
  have hb := B.bytes
  have hr := B.returns
  have hts := atoms_spec (ws := vq_level) B.pre
  have hown : s.vm.findClass RX12 = some m.cls := findClass_of_methodNamed B.named
  have hlocks := B.notSynchronized
  subst hsz
  have hD := hD0.self (sz := s.heap.size)
  generalize hAe : va_A [(ma 0, .inr (11, [.ref (ma 1), .ref (ma 2), .int 0, .long 0, .long 1, .ref (ma 3), .ref (ma 4), .ref (ma 5), .ref (ma 6), .ref (ma 7), .int 0, .int 0, .int 0, .int 0, .int 0, .int 0, .int (-1), .int (-1), .int 0, .int 0, .int 0, .ref (ma 8), .int 0, .int 0, .int (-1), .int 0, .int 0, .int 0, .ref (ma 9), .int 0, .int 0, .ref (ma 10), .ref (ma 11), .ref (ma 12), .int 0, .int 0])), (ma 1, .inl (kc 0, 2880, .inl at0))] s.heap.size = A at hD ⊢
  have hA : ∀ q : Nat, s.heap.size ≤ q → A q := fun q h => by rw [← hAe]; exact Or.inr h
  have hS : va_S A s.heap s.heap [] := va_S.rf
  have hK := hE.1
  have hP : va_P D vwCl [(ma 0, .inr (11, [.ref (ma 1), .ref (ma 2), .int 0, .long 0, .long 1, .ref (ma 3), .ref (ma 4), .ref (ma 5), .ref (ma 6), .ref (ma 7), .int 0, .int 0, .int 0, .int 0, .int 0, .int 0, .int (-1), .int (-1), .int 0, .int 0, .int 0, .ref (ma 8), .int 0, .int 0, .int (-1), .int 0, .int 0, .int 0, .ref (ma 9), .int 0, .int 0, .ref (ma 10), .ref (ma 11), .ref (ma 12), .int 0, .int 0])), (ma 1, .inl (kc 0, 2880, .inl at0))] s.heap := hP
  have hl := lv_entry ([.ref (ma 0)]) (n := 7) (Nat.le_of_ble_eq_true rfl)
  rw [lg_entry_eq]
  generalize (lg_sl ([.ref (ma 0)]) ++ List.replicate (7 - (lg_sl ([.ref (ma 0)])).length) Slot.unset).toArray = ls at hl ⊢
  have hl : lv_has ls 7 [(0, .ref (ma 0))] := hl
  refine lv_iconst (v := 0) hx hb dX12_level_0 (by decide) ?_
  refine lv_istore_n (lv' := [(1, .int 0), (0, .ref (ma 0))]) hx hb dX12_level_1 rfl hl (by decide) rfl (fun ls hl => ?_)
  refine lv_iconst (v := 0) hx hb dX12_level_2 (by decide) ?_
  refine lv_istore_n (lv' := [(2, .int 0), (1, .int 0), (0, .ref (ma 0))]) hx hb dX12_level_3 rfl hl (by decide) rfl (fun ls hl => ?_)
  refine lv_iconst (v := 0) hx hb dX12_level_4 (by decide) ?_
  refine lv_istore_n (lv' := [(3, .int 0), (2, .int 0), (1, .int 0), (0, .ref (ma 0))]) hx hb dX12_level_5 rfl hl (by decide) rfl (fun ls hl => ?_)
  refine lv_iload_n hx hb dX12_level_6 rfl (lv_at hl 0 rfl) ?_
  refine lv_aload_n hx hb dX12_level_7 rfl (lv_at hl 3 rfl) ?_
  refine va_get (D := D) (ci := 11) (v := .ref (ma 1)) (C := RX12) (T := TX12) (N := 36) hx hb hts iq_level_X12 hown hK hP 0 rfl rfl 0 (by decide) (hts (.fieldLink RX12 7 "SaltStreetModel" "at" "[I") (List.mem_of_getElem? (i := 1) rfl)) (fun _ h9 => h9) rfl dX12_level_8 ?_
  refine lv_iconst (v := 0) hx hb dX12_level_11 (by decide) ?_
  refine va_iald hx hb hK hP 1 0 (f := at0) rfl rfl (by unfold vp_in; decide) dX12_level_12 ?_
  refine lv_ci (y := 0) (by decide) ?_
  refine lv_icmp_ge (tgt := 44) hx hb dX12_level_13 (by decide) (fun _ => ?_) (fun h => absurd (by decide) h)
  refine lv_iload_n hx hb dX12_level_44 rfl (lv_at hl 2 rfl) ?_
  refine lv_if_ne (tgt := 54) hx hb dX12_level_45 (by decide) (fun h => absurd (by decide) h) (fun _ => ?_)
  refine lv_aload_n hx hb dX12_level_48 rfl (lv_at hl 3 rfl) ?_
  refine lv_iconst (v := 0) hx hb dX12_level_49 (by decide) ?_
  have hPc := hP.sub (ws' := [(ma 0, .inr (11, [.ref (ma 1), .ref (ma 2), .int 0, .long 0, .long 1, .ref (ma 3), .ref (ma 4), .ref (ma 5), .ref (ma 6), .ref (ma 7), .int 0, .int 0, .int 0, .int 0, .int 0, .int 0, .int (-1), .int (-1), .int 0, .int 0, .int 0, .ref (ma 8), .int 0, .int 0, .int (-1), .int 0, .int 0, .int 0, .ref (ma 9), .int 0, .int 0, .ref (ma 10), .ref (ma 11), .ref (ma 12), .int 0, .int 0]))]) [0] rfl
  have hDc := hD.sub (ws' := [(ma 0, .inr (11, [.ref (ma 1), .ref (ma 2), .int 0, .long 0, .long 1, .ref (ma 3), .ref (ma 4), .ref (ma 5), .ref (ma 6), .ref (ma 7), .int 0, .int 0, .int 0, .int 0, .int 0, .int 0, .int (-1), .int (-1), .int 0, .int 0, .int 0, .ref (ma 8), .int 0, .int 0, .int (-1), .int 0, .int 0, .int 0, .ref (ma 9), .int 0, .int 0, .ref (ma 10), .ref (ma 11), .ref (ma 12), .int 0, .int 0]))]) [0] (by decide) rfl
  have hFc := va_free (wc := [(ma 0, .inr (11, [.ref (ma 1), .ref (ma 2), .int 0, .long 0, .long 1, .ref (ma 3), .ref (ma 4), .ref (ma 5), .ref (ma 6), .ref (ma 7), .int 0, .int 0, .int 0, .int 0, .int 0, .int 0, .int (-1), .int (-1), .int 0, .int 0, .int 0, .ref (ma 8), .int 0, .int 0, .int (-1), .int 0, .int 0, .int 0, .ref (ma 9), .int 0, .int 0, .ref (ma 10), .ref (ma 11), .ref (ma 12), .int 0, .int 0]))]) hD hS hA [0] rfl
  refine va_calli (va_runV (As := [.int 0]) (rest := []) ⟨hx, hb, hml, hown, hts⟩ (m_gives l D kc s.heap.size ma 0 0 1 0 0 0 0 0 0 (-1) (-1) 0 0 0 0 0 (-1) 0 0 0 0 0 0 0 0) (cwV 1 hts gq_level_76_m_gives rfl rfl rfl (by decide +kernel) ⟨Nat.le_of_ble_eq_true rfl, Nat.le_of_ble_eq_true rfl⟩) (preV_ok hPc hDc hE (ci := 11) (q0 := 0) rfl rfl) rfl rfl hl.1 rfl (lv_room (Nat.le_of_ble_eq_true rfl)) dX12_level_50 ⟨Nat.le_of_ble_eq_true rfl, Nat.le_of_ble_eq_true rfl⟩) hS (fun q _ h => hFc q h) hFc (fun r_50 u9 t9 H locs ht hvm hw hB hz1 hk1 hS => ?_)
  obtain ⟨hP1, hD1⟩ := hB
  rw [ht] at hP1
  obtain ⟨hP, hD⟩ := va_join (wr := [(ma 1, .inl (kc 0, 2880, .inl at0))]) (w1 := [(ma 0, .inr (11, [.ref (ma 1), .ref (ma 2), .int 0, .long 0, .long 1, .ref (ma 3), .ref (ma 4), .ref (ma 5), .ref (ma 6), .ref (ma 7), .int 0, .int 0, .int 0, .int 0, .int 0, .int 0, .int (-1), .int (-1), .int 0, .int 0, .int 0, .ref (ma 8), .int 0, .int 0, .int (-1), .int 0, .int 0, .int 0, .ref (ma 9), .int 0, .int 0, .ref (ma 10), .ref (ma 11), .ref (ma 12), .int 0, .int 0]))]) hP hD [0] [1] rfl rfl (by decide) (by decide) hk1 hFc hP1 hD1
  have hP : va_P D vwCl [(ma 1, .inl (kc 0, 2880, .inl at0)), (ma 0, .inr (11, [.ref (ma 1), .ref (ma 2), .int 0, .long 0, .long 1, .ref (ma 3), .ref (ma 4), .ref (ma 5), .ref (ma 6), .ref (ma 7), .int 0, .int 0, .int 0, .int 0, .int 0, .int 0, .int (-1), .int (-1), .int 0, .int 0, .int 0, .ref (ma 8), .int 0, .int 0, .int (-1), .int 0, .int 0, .int 0, .ref (ma 9), .int 0, .int 0, .ref (ma 10), .ref (ma 11), .ref (ma 12), .int 0, .int 0]))] H := hP
  have hD : va_D A [(ma 1, .inl (kc 0, 2880, .inl at0)), (ma 0, .inr (11, [.ref (ma 1), .ref (ma 2), .int 0, .long 0, .long 1, .ref (ma 3), .ref (ma 4), .ref (ma 5), .ref (ma 6), .ref (ma 7), .int 0, .int 0, .int 0, .int 0, .int 0, .int 0, .int (-1), .int (-1), .int 0, .int 0, .int 0, .ref (ma 8), .int 0, .int 0, .int (-1), .int 0, .int 0, .int 0, .ref (ma 9), .int 0, .int 0, .ref (ma 10), .ref (ma 11), .ref (ma 12), .int 0, .int 0]))] := hD
  subst hw
  exact W.iret (v := 0) hx hb hr (fun t9 ht hW => ⟨⟨0, (), rfl, rfl, trivial⟩, hS.F ht⟩) hS.2.2 dX12_level_53
theorem dX12_steps_0 : decode cX12_steps 0 = .ok (.iload_n 1, 1) := by decide +kernel
theorem dX12_steps_1 : decode cX12_steps 1 = .ok (.ifCond .lt 8, 3) := by decide +kernel
theorem dX12_steps_9 : decode cX12_steps 9 = .ok (.aload_n 0, 1) := by decide +kernel
theorem dX12_steps_10 : decode cX12_steps 10 = .ok (.iconst 1, 1) := by decide +kernel
theorem dX12_steps_11 : decode cX12_steps 11 = .ok (.invokevirtual 72, 3) := by decide +kernel
theorem dX12_steps_14 : decode cX12_steps 14 = .ok (.ireturn, 1) := by decide +kernel
theorem dX12_steps_4 : decode cX12_steps 4 = .ok (.iload_n 1, 1) := by decide +kernel
theorem dX12_steps_5 : decode cX12_steps 5 = .ok (.iconst 2, 1) := by decide +kernel
theorem dX12_steps_6 : decode cX12_steps 6 = .ok (.if_icmp .le 9, 3) := by decide +kernel
theorem dX12_steps_15 : decode cX12_steps 15 = .ok (.iconst 0, 1) := by decide +kernel
theorem dX12_steps_16 : decode cX12_steps 16 = .ok (.istore_n 2, 1) := by decide +kernel
theorem dX12_steps_17 : decode cX12_steps 17 = .ok (.iconst 0, 1) := by decide +kernel
theorem dX12_steps_18 : decode cX12_steps 18 = .ok (.istore_n 3, 1) := by decide +kernel
theorem dX12_steps_19 : decode cX12_steps 19 = .ok (.iload_n 3, 1) := by decide +kernel
theorem dX12_steps_20 : decode cX12_steps 20 = .ok (.aload_n 0, 1) := by decide +kernel
theorem dX12_steps_21 : decode cX12_steps 21 = .ok (.getfield 7, 3) := by decide +kernel
theorem dX12_steps_24 : decode cX12_steps 24 = .ok (.iconst 0, 1) := by decide +kernel
theorem dX12_steps_25 : decode cX12_steps 25 = .ok (.iaload, 1) := by decide +kernel
theorem dX12_steps_26 : decode cX12_steps 26 = .ok (.if_icmp .ge 109, 3) := by decide +kernel
theorem dX12_steps_135 : decode cX12_steps 135 = .ok (.aload_n 0, 1) := by decide +kernel
theorem dX12_steps_136 : decode cX12_steps 136 = .ok (.iload_n 2, 1) := by decide +kernel
theorem dX12_steps_137 : decode cX12_steps 137 = .ok (.invokevirtual 76, 3) := by decide +kernel
theorem dX12_steps_140 : decode cX12_steps 140 = .ok (.ireturn, 1) := by decide +kernel
def vdq_steps : List Cond := [.code yX12_steps cX12_steps 7 (some .int), .methodLink RX12 72 yX12_refuse, .code yX12_refuse cX12_refuse 2 (some .int), .fieldLink RX12 66 "SaltStreetModel" "status" "I", .instanceMethod yX12_refuse, .selects RX12 yX12_refuse yX12_refuse, .initialized RX12, .fieldLink RX12 7 "SaltStreetModel" "at" "[I", .methodLink RX12 76 yX12_gives, .code yX12_gives cX12_gives 2 (some .int), .instanceMethod yX12_gives, .selects RX12 yX12_gives yX12_gives]
def vq_steps : List Cond := vdq_steps ++ (wsX120 ++ ([] : List Cond))
theorem iq_steps_X12 : ∀ w ∈ wsX120, w ∈ vq_steps := fun _ h => List.mem_append_right _ (List.mem_append_left _ h)
set_option maxRecDepth 20000 in
theorem gq_steps_72_m_refuse : GoodIn vq_steps (wsV RX12 72 RX12 yX12_refuse vm_refuse) := (goodIn_app (goodIn_r _ [1, 4, 5, 6] rfl (by decide +kernel)) (goodIn_app (goodIn_r vdm_refuse [2, 3] rfl (by decide +kernel)) (goodIn_app (goodIn_sub iq_steps_X12 gdX12) goodIn_nil)))
set_option maxRecDepth 20000 in
theorem gq_steps_76_m_gives : GoodIn vq_steps (wsV RX12 76 RX12 yX12_gives vm_gives) := (goodIn_app (goodIn_r _ [8, 10, 11, 6] rfl (by decide +kernel)) (goodIn_app (goodIn_r vdm_gives [9, 3] rfl (by decide +kernel)) (goodIn_app (goodIn_sub iq_steps_X12 gdX12) goodIn_nil)))
set_option maxHeartbeats 4000000 in
set_option maxRecDepth 100000 in
theorem q_steps (l : Launch) (D : va_G) (kc : Nat → ClassId) (sz : Nat) (ma : Nat → Nat) (a0 : Int32) : Met l yX12_steps vq_steps ({ frames := 1, cells := 0, slots := 0, locals := 21 }) (va_Pc [.ref (ma 0), .int a0] (wPre D kc [(ma 0, .inr (11, [.ref (ma 1), .ref (ma 2), .int 0, .long 0, .long 1, .ref (ma 3), .ref (ma 4), .ref (ma 5), .ref (ma 6), .ref (ma 7), .int 0, .int 0, .int 0, .int 0, .int 0, .int 0, .int (-1), .int (-1), .int 0, .int 0, .int 0, .ref (ma 8), .int 0, .int 0, .int (-1), .int 0, .int 0, .int 0, .ref (ma 9), .int 0, .int 0, .ref (ma 10), .ref (ma 11), .ref (ma 12), .int 0, .int 0])), (ma 1, .inl (kc 0, 2880, .inl at0))] sz)) (va_Qi (fun (r : Int32) (_ : Unit) => r = (sSteps a0)) wAny (va_A [(ma 0, .inr (11, [.ref (ma 1), .ref (ma 2), .int 0, .long 0, .long 1, .ref (ma 3), .ref (ma 4), .ref (ma 5), .ref (ma 6), .ref (ma 7), .int 0, .int 0, .int 0, .int 0, .int 0, .int 0, .int (-1), .int (-1), .int 0, .int 0, .int 0, .ref (ma 8), .int 0, .int 0, .int (-1), .int 0, .int 0, .int 0, .ref (ma 9), .int 0, .int 0, .ref (ma 10), .ref (ma 11), .ref (ma 12), .int 0, .int 0])), (ma 1, .inl (kc 0, 2880, .inl at0))] sz)) 0 0 (va_A [(ma 0, .inr (11, [.ref (ma 1), .ref (ma 2), .int 0, .long 0, .long 1, .ref (ma 3), .ref (ma 4), .ref (ma 5), .ref (ma 6), .ref (ma 7), .int 0, .int 0, .int 0, .int 0, .int 0, .int 0, .int (-1), .int (-1), .int 0, .int 0, .int 0, .ref (ma 8), .int 0, .int 0, .int (-1), .int 0, .int 0, .int 0, .ref (ma 9), .int 0, .int 0, .ref (ma 10), .ref (ma 11), .ref (ma 12), .int 0, .int 0])), (ma 1, .inl (kc 0, 2880, .inl at0))] sz) := by
  refine Met.ofW (cc := cX12_steps) (maxL := 7) (ret := (some .int)) (by decide) rfl ?_
  intro p e s m args below meth c s₁ B hml hv
  obtain ⟨rfl, hsz, hP, hE, hD0⟩ := hv
  have hx := B.exec
  have hb := B.bytes
  have hr := B.returns
  have hts := atoms_spec (ws := vq_steps) B.pre
  have hown : s.vm.findClass RX12 = some m.cls := findClass_of_methodNamed B.named
  have hlocks := B.notSynchronized
  subst hsz
  have hD := hD0.self (sz := s.heap.size)
  generalize hAe : va_A [(ma 0, .inr (11, [.ref (ma 1), .ref (ma 2), .int 0, .long 0, .long 1, .ref (ma 3), .ref (ma 4), .ref (ma 5), .ref (ma 6), .ref (ma 7), .int 0, .int 0, .int 0, .int 0, .int 0, .int 0, .int (-1), .int (-1), .int 0, .int 0, .int 0, .ref (ma 8), .int 0, .int 0, .int (-1), .int 0, .int 0, .int 0, .ref (ma 9), .int 0, .int 0, .ref (ma 10), .ref (ma 11), .ref (ma 12), .int 0, .int 0])), (ma 1, .inl (kc 0, 2880, .inl at0))] s.heap.size = A at hD ⊢
  have hA : ∀ q : Nat, s.heap.size ≤ q → A q := fun q h => by rw [← hAe]; exact Or.inr h
  have hS : va_S A s.heap s.heap [] := va_S.rf
  have hK := hE.1
  have hP : va_P D vwCl [(ma 0, .inr (11, [.ref (ma 1), .ref (ma 2), .int 0, .long 0, .long 1, .ref (ma 3), .ref (ma 4), .ref (ma 5), .ref (ma 6), .ref (ma 7), .int 0, .int 0, .int 0, .int 0, .int 0, .int 0, .int (-1), .int (-1), .int 0, .int 0, .int 0, .ref (ma 8), .int 0, .int 0, .int (-1), .int 0, .int 0, .int 0, .ref (ma 9), .int 0, .int 0, .ref (ma 10), .ref (ma 11), .ref (ma 12), .int 0, .int 0])), (ma 1, .inl (kc 0, 2880, .inl at0))] s.heap := hP
  have hl := lv_entry ([.ref (ma 0), .int a0]) (n := 7) (Nat.le_of_ble_eq_true rfl)
  rw [lg_entry_eq]
  generalize (lg_sl ([.ref (ma 0), .int a0]) ++ List.replicate (7 - (lg_sl ([.ref (ma 0), .int a0])).length) Slot.unset).toArray = ls at hl ⊢
  have hl : lv_has ls 7 [(0, .ref (ma 0)), (1, .int a0)] := hl
  refine lv_iload_n hx hb dX12_steps_0 rfl (lv_at hl 1 rfl) ?_
  refine lv_if_lt (tgt := 9) hx hb dX12_steps_1 (by decide) (fun c_1 => ?_) (fun c_1 => ?_)
  · refine lv_aload_n hx hb dX12_steps_9 rfl (lv_at hl 0 rfl) ?_
    refine lv_iconst (v := 1) hx hb dX12_steps_10 (by decide) ?_
    have hPc := hP.sub (ws' := [(ma 0, .inr (11, [.ref (ma 1), .ref (ma 2), .int 0, .long 0, .long 1, .ref (ma 3), .ref (ma 4), .ref (ma 5), .ref (ma 6), .ref (ma 7), .int 0, .int 0, .int 0, .int 0, .int 0, .int 0, .int (-1), .int (-1), .int 0, .int 0, .int 0, .ref (ma 8), .int 0, .int 0, .int (-1), .int 0, .int 0, .int 0, .ref (ma 9), .int 0, .int 0, .ref (ma 10), .ref (ma 11), .ref (ma 12), .int 0, .int 0]))]) [0] rfl
    have hDc := hD.sub (ws' := [(ma 0, .inr (11, [.ref (ma 1), .ref (ma 2), .int 0, .long 0, .long 1, .ref (ma 3), .ref (ma 4), .ref (ma 5), .ref (ma 6), .ref (ma 7), .int 0, .int 0, .int 0, .int 0, .int 0, .int 0, .int (-1), .int (-1), .int 0, .int 0, .int 0, .ref (ma 8), .int 0, .int 0, .int (-1), .int 0, .int 0, .int 0, .ref (ma 9), .int 0, .int 0, .ref (ma 10), .ref (ma 11), .ref (ma 12), .int 0, .int 0]))]) [0] (by decide) rfl
    have hFc := va_free (wc := [(ma 0, .inr (11, [.ref (ma 1), .ref (ma 2), .int 0, .long 0, .long 1, .ref (ma 3), .ref (ma 4), .ref (ma 5), .ref (ma 6), .ref (ma 7), .int 0, .int 0, .int 0, .int 0, .int 0, .int 0, .int (-1), .int (-1), .int 0, .int 0, .int 0, .ref (ma 8), .int 0, .int 0, .int (-1), .int 0, .int 0, .int 0, .ref (ma 9), .int 0, .int 0, .ref (ma 10), .ref (ma 11), .ref (ma 12), .int 0, .int 0]))]) hD hS hA [0] rfl
    refine va_calli (va_runV (As := [.int 1]) (rest := []) ⟨hx, hb, hml, hown, hts⟩ (m_refuse l D kc s.heap.size ma 0 0 1 0 0 0 0 0 0 (-1) (-1) 0 0 0 0 0 (-1) 0 0 0 0 0 0 0 1) (cwV 1 hts gq_steps_72_m_refuse rfl rfl rfl (by decide +kernel) ⟨Nat.le_of_ble_eq_true rfl, Nat.le_of_ble_eq_true rfl⟩) (preV_ok hPc hDc hE (ci := 11) (q0 := 0) rfl rfl) rfl rfl hl.1 rfl (lv_room (Nat.le_of_ble_eq_true rfl)) dX12_steps_11 ⟨Nat.le_of_ble_eq_true rfl, Nat.le_of_ble_eq_true rfl⟩) hS (fun q _ h => hFc q h) hFc (fun r_11_1 u9 t9 H locs ht hvm hw hB hz1 hk1 hS => ?_)
    obtain ⟨hP1, hD1⟩ := hB
    rw [ht] at hP1
    obtain ⟨hP, hD⟩ := va_join (wr := [(ma 1, .inl (kc 0, 2880, .inl at0))]) (w1 := [(ma 0, .inr (11, [.ref (ma 1), .ref (ma 2), .int 1, .long 0, .long 1, .ref (ma 3), .ref (ma 4), .ref (ma 5), .ref (ma 6), .ref (ma 7), .int 0, .int 0, .int 0, .int 0, .int 0, .int 0, .int (-1), .int (-1), .int 0, .int 0, .int 0, .ref (ma 8), .int 0, .int 0, .int (-1), .int 0, .int 0, .int 0, .ref (ma 9), .int 0, .int 0, .ref (ma 10), .ref (ma 11), .ref (ma 12), .int 0, .int 0]))]) hP hD [0] [1] rfl rfl (by decide) (by decide) hk1 hFc hP1 hD1
    have hP : va_P D vwCl [(ma 1, .inl (kc 0, 2880, .inl at0)), (ma 0, .inr (11, [.ref (ma 1), .ref (ma 2), .int 1, .long 0, .long 1, .ref (ma 3), .ref (ma 4), .ref (ma 5), .ref (ma 6), .ref (ma 7), .int 0, .int 0, .int 0, .int 0, .int 0, .int 0, .int (-1), .int (-1), .int 0, .int 0, .int 0, .ref (ma 8), .int 0, .int 0, .int (-1), .int 0, .int 0, .int 0, .ref (ma 9), .int 0, .int 0, .ref (ma 10), .ref (ma 11), .ref (ma 12), .int 0, .int 0]))] H := hP
    have hD : va_D A [(ma 1, .inl (kc 0, 2880, .inl at0)), (ma 0, .inr (11, [.ref (ma 1), .ref (ma 2), .int 1, .long 0, .long 1, .ref (ma 3), .ref (ma 4), .ref (ma 5), .ref (ma 6), .ref (ma 7), .int 0, .int 0, .int 0, .int 0, .int 0, .int 0, .int (-1), .int (-1), .int 0, .int 0, .int 0, .ref (ma 8), .int 0, .int 0, .int (-1), .int 0, .int 0, .int 0, .ref (ma 9), .int 0, .int 0, .ref (ma 10), .ref (ma 11), .ref (ma 12), .int 0, .int 0]))] := hD
    subst hw
    exact W.iret (v := (-1)) hx hb hr (fun t9 ht hW => ⟨⟨(-1), (), rfl, by first | exact (steps_m1 c_1).symm | exact (steps_m2 c_1).symm | exact (steps_m2' c_1).symm | exact (steps_m1 c_6).symm | exact (steps_m2 c_6).symm | exact (steps_m2' c_6).symm | exact (steps_m1 c_26).symm | exact (steps_m2 c_26).symm | exact (steps_m2' c_26).symm | exact (steps_m1 c_56).symm | exact (steps_m2 c_56).symm | exact (steps_m2' c_56).symm | exact (steps_m1 c_61).symm | exact (steps_m2 c_61).symm | exact (steps_m2' c_61).symm | exact (steps_m1 c_74).symm | exact (steps_m2 c_74).symm | exact (steps_m2' c_74).symm | exact (steps_m1 c_79).symm | exact (steps_m2 c_79).symm | exact (steps_m2' c_79).symm | exact (steps_m1 c_98).symm | exact (steps_m2 c_98).symm | exact (steps_m2' c_98).symm | exact (steps_m1 c_114).symm | exact (steps_m2 c_114).symm | exact (steps_m2' c_114).symm | exact (steps_m1 c_119).symm | exact (steps_m2 c_119).symm | exact (steps_m2' c_119).symm | exact (steps_m3 c_1 c_6).symm | exact (steps_m3' c_1 c_6).symm | exact (steps_m3 c_1 c_26).symm | exact (steps_m3' c_1 c_26).symm | exact (steps_m3 c_6 c_1).symm | exact (steps_m3' c_6 c_1).symm | exact (steps_m3 c_6 c_26).symm | exact (steps_m3' c_6 c_26).symm | exact (steps_m3 c_26 c_1).symm | exact (steps_m3' c_26 c_1).symm | exact (steps_m3 c_26 c_6).symm | exact (steps_m3' c_26 c_6).symm, trivial⟩, hS.F ht⟩) hS.2.2 dX12_steps_14
  · refine lv_iload_n hx hb dX12_steps_4 rfl (lv_at hl 1 rfl) ?_
    refine lv_iconst (v := 2) hx hb dX12_steps_5 (by decide) ?_
    refine lv_icmp_le (tgt := 15) hx hb dX12_steps_6 (by decide) (fun c_6 => ?_) (fun c_6 => ?_)
    · refine lv_iconst (v := 0) hx hb dX12_steps_15 (by decide) ?_
      refine lv_istore_n (lv' := [(2, .int 0), (0, .ref (ma 0)), (1, .int a0)]) hx hb dX12_steps_16 rfl hl (by decide) rfl (fun ls hl => ?_)
      refine lv_iconst (v := 0) hx hb dX12_steps_17 (by decide) ?_
      refine lv_istore_n (lv' := [(3, .int 0), (2, .int 0), (0, .ref (ma 0)), (1, .int a0)]) hx hb dX12_steps_18 rfl hl (by decide) rfl (fun ls hl => ?_)
      refine lv_iload_n hx hb dX12_steps_19 rfl (lv_at hl 0 rfl) ?_
      refine lv_aload_n hx hb dX12_steps_20 rfl (lv_at hl 2 rfl) ?_
      refine va_get (D := D) (ci := 11) (v := .ref (ma 1)) (C := RX12) (T := TX12) (N := 36) hx hb hts iq_steps_X12 hown hK hP 0 rfl rfl 0 (by decide) (hts (.fieldLink RX12 7 "SaltStreetModel" "at" "[I") (List.mem_of_getElem? (i := 7) rfl)) (fun _ h9 => h9) rfl dX12_steps_21 ?_
      refine lv_iconst (v := 0) hx hb dX12_steps_24 (by decide) ?_
      refine va_iald hx hb hK hP 1 0 (f := at0) rfl rfl (by unfold vp_in; decide) dX12_steps_25 ?_
      refine lv_ci (y := 0) (by decide) ?_
      refine lv_icmp_ge (tgt := 135) hx hb dX12_steps_26 (by decide) (fun _ => ?_) (fun h => absurd (by decide) h)
      refine lv_aload_n hx hb dX12_steps_135 rfl (lv_at hl 2 rfl) ?_
      refine lv_iload_n hx hb dX12_steps_136 rfl (lv_at hl 1 rfl) ?_
      have hPc := hP.sub (ws' := [(ma 0, .inr (11, [.ref (ma 1), .ref (ma 2), .int 0, .long 0, .long 1, .ref (ma 3), .ref (ma 4), .ref (ma 5), .ref (ma 6), .ref (ma 7), .int 0, .int 0, .int 0, .int 0, .int 0, .int 0, .int (-1), .int (-1), .int 0, .int 0, .int 0, .ref (ma 8), .int 0, .int 0, .int (-1), .int 0, .int 0, .int 0, .ref (ma 9), .int 0, .int 0, .ref (ma 10), .ref (ma 11), .ref (ma 12), .int 0, .int 0]))]) [0] rfl
      have hDc := hD.sub (ws' := [(ma 0, .inr (11, [.ref (ma 1), .ref (ma 2), .int 0, .long 0, .long 1, .ref (ma 3), .ref (ma 4), .ref (ma 5), .ref (ma 6), .ref (ma 7), .int 0, .int 0, .int 0, .int 0, .int 0, .int 0, .int (-1), .int (-1), .int 0, .int 0, .int 0, .ref (ma 8), .int 0, .int 0, .int (-1), .int 0, .int 0, .int 0, .ref (ma 9), .int 0, .int 0, .ref (ma 10), .ref (ma 11), .ref (ma 12), .int 0, .int 0]))]) [0] (by decide) rfl
      have hFc := va_free (wc := [(ma 0, .inr (11, [.ref (ma 1), .ref (ma 2), .int 0, .long 0, .long 1, .ref (ma 3), .ref (ma 4), .ref (ma 5), .ref (ma 6), .ref (ma 7), .int 0, .int 0, .int 0, .int 0, .int 0, .int 0, .int (-1), .int (-1), .int 0, .int 0, .int 0, .ref (ma 8), .int 0, .int 0, .int (-1), .int 0, .int 0, .int 0, .ref (ma 9), .int 0, .int 0, .ref (ma 10), .ref (ma 11), .ref (ma 12), .int 0, .int 0]))]) hD hS hA [0] rfl
      refine va_calli (va_runV (As := [.int 0]) (rest := []) ⟨hx, hb, hml, hown, hts⟩ (m_gives l D kc s.heap.size ma 0 0 1 0 0 0 0 0 0 (-1) (-1) 0 0 0 0 0 (-1) 0 0 0 0 0 0 0 0) (cwV 1 hts gq_steps_76_m_gives rfl rfl rfl (by decide +kernel) ⟨Nat.le_of_ble_eq_true rfl, Nat.le_of_ble_eq_true rfl⟩) (preV_ok hPc hDc hE (ci := 11) (q0 := 0) rfl rfl) rfl rfl hl.1 rfl (lv_room (Nat.le_of_ble_eq_true rfl)) dX12_steps_137 ⟨Nat.le_of_ble_eq_true rfl, Nat.le_of_ble_eq_true rfl⟩) hS (fun q _ h => hFc q h) hFc (fun r_137_2 u9 t9 H locs ht hvm hw hB hz1 hk1 hS => ?_)
      obtain ⟨hP1, hD1⟩ := hB
      rw [ht] at hP1
      obtain ⟨hP, hD⟩ := va_join (wr := [(ma 1, .inl (kc 0, 2880, .inl at0))]) (w1 := [(ma 0, .inr (11, [.ref (ma 1), .ref (ma 2), .int 0, .long 0, .long 1, .ref (ma 3), .ref (ma 4), .ref (ma 5), .ref (ma 6), .ref (ma 7), .int 0, .int 0, .int 0, .int 0, .int 0, .int 0, .int (-1), .int (-1), .int 0, .int 0, .int 0, .ref (ma 8), .int 0, .int 0, .int (-1), .int 0, .int 0, .int 0, .ref (ma 9), .int 0, .int 0, .ref (ma 10), .ref (ma 11), .ref (ma 12), .int 0, .int 0]))]) hP hD [0] [1] rfl rfl (by decide) (by decide) hk1 hFc hP1 hD1
      have hP : va_P D vwCl [(ma 1, .inl (kc 0, 2880, .inl at0)), (ma 0, .inr (11, [.ref (ma 1), .ref (ma 2), .int 0, .long 0, .long 1, .ref (ma 3), .ref (ma 4), .ref (ma 5), .ref (ma 6), .ref (ma 7), .int 0, .int 0, .int 0, .int 0, .int 0, .int 0, .int (-1), .int (-1), .int 0, .int 0, .int 0, .ref (ma 8), .int 0, .int 0, .int (-1), .int 0, .int 0, .int 0, .ref (ma 9), .int 0, .int 0, .ref (ma 10), .ref (ma 11), .ref (ma 12), .int 0, .int 0]))] H := hP
      have hD : va_D A [(ma 1, .inl (kc 0, 2880, .inl at0)), (ma 0, .inr (11, [.ref (ma 1), .ref (ma 2), .int 0, .long 0, .long 1, .ref (ma 3), .ref (ma 4), .ref (ma 5), .ref (ma 6), .ref (ma 7), .int 0, .int 0, .int 0, .int 0, .int 0, .int 0, .int (-1), .int (-1), .int 0, .int 0, .int 0, .ref (ma 8), .int 0, .int 0, .int (-1), .int 0, .int 0, .int 0, .ref (ma 9), .int 0, .int 0, .ref (ma 10), .ref (ma 11), .ref (ma 12), .int 0, .int 0]))] := hD
      subst hw
      exact W.iret (v := 0) hx hb hr (fun t9 ht hW => ⟨⟨0, (), rfl, by first | exact (steps_m1 c_1).symm | exact (steps_m2 c_1).symm | exact (steps_m2' c_1).symm | exact (steps_m1 c_6).symm | exact (steps_m2 c_6).symm | exact (steps_m2' c_6).symm | exact (steps_m1 c_26).symm | exact (steps_m2 c_26).symm | exact (steps_m2' c_26).symm | exact (steps_m1 c_56).symm | exact (steps_m2 c_56).symm | exact (steps_m2' c_56).symm | exact (steps_m1 c_61).symm | exact (steps_m2 c_61).symm | exact (steps_m2' c_61).symm | exact (steps_m1 c_74).symm | exact (steps_m2 c_74).symm | exact (steps_m2' c_74).symm | exact (steps_m1 c_79).symm | exact (steps_m2 c_79).symm | exact (steps_m2' c_79).symm | exact (steps_m1 c_98).symm | exact (steps_m2 c_98).symm | exact (steps_m2' c_98).symm | exact (steps_m1 c_114).symm | exact (steps_m2 c_114).symm | exact (steps_m2' c_114).symm | exact (steps_m1 c_119).symm | exact (steps_m2 c_119).symm | exact (steps_m2' c_119).symm | exact (steps_m3 c_1 c_6).symm | exact (steps_m3' c_1 c_6).symm | exact (steps_m3 c_1 c_26).symm | exact (steps_m3' c_1 c_26).symm | exact (steps_m3 c_6 c_1).symm | exact (steps_m3' c_6 c_1).symm | exact (steps_m3 c_6 c_26).symm | exact (steps_m3' c_6 c_26).symm | exact (steps_m3 c_26 c_1).symm | exact (steps_m3' c_26 c_1).symm | exact (steps_m3 c_26 c_6).symm | exact (steps_m3' c_26 c_6).symm, trivial⟩, hS.F ht⟩) hS.2.2 dX12_steps_140
    · refine lv_aload_n hx hb dX12_steps_9 rfl (lv_at hl 0 rfl) ?_
      refine lv_iconst (v := 1) hx hb dX12_steps_10 (by decide) ?_
      have hPc := hP.sub (ws' := [(ma 0, .inr (11, [.ref (ma 1), .ref (ma 2), .int 0, .long 0, .long 1, .ref (ma 3), .ref (ma 4), .ref (ma 5), .ref (ma 6), .ref (ma 7), .int 0, .int 0, .int 0, .int 0, .int 0, .int 0, .int (-1), .int (-1), .int 0, .int 0, .int 0, .ref (ma 8), .int 0, .int 0, .int (-1), .int 0, .int 0, .int 0, .ref (ma 9), .int 0, .int 0, .ref (ma 10), .ref (ma 11), .ref (ma 12), .int 0, .int 0]))]) [0] rfl
      have hDc := hD.sub (ws' := [(ma 0, .inr (11, [.ref (ma 1), .ref (ma 2), .int 0, .long 0, .long 1, .ref (ma 3), .ref (ma 4), .ref (ma 5), .ref (ma 6), .ref (ma 7), .int 0, .int 0, .int 0, .int 0, .int 0, .int 0, .int (-1), .int (-1), .int 0, .int 0, .int 0, .ref (ma 8), .int 0, .int 0, .int (-1), .int 0, .int 0, .int 0, .ref (ma 9), .int 0, .int 0, .ref (ma 10), .ref (ma 11), .ref (ma 12), .int 0, .int 0]))]) [0] (by decide) rfl
      have hFc := va_free (wc := [(ma 0, .inr (11, [.ref (ma 1), .ref (ma 2), .int 0, .long 0, .long 1, .ref (ma 3), .ref (ma 4), .ref (ma 5), .ref (ma 6), .ref (ma 7), .int 0, .int 0, .int 0, .int 0, .int 0, .int 0, .int (-1), .int (-1), .int 0, .int 0, .int 0, .ref (ma 8), .int 0, .int 0, .int (-1), .int 0, .int 0, .int 0, .ref (ma 9), .int 0, .int 0, .ref (ma 10), .ref (ma 11), .ref (ma 12), .int 0, .int 0]))]) hD hS hA [0] rfl
      refine va_calli (va_runV (As := [.int 1]) (rest := []) ⟨hx, hb, hml, hown, hts⟩ (m_refuse l D kc s.heap.size ma 0 0 1 0 0 0 0 0 0 (-1) (-1) 0 0 0 0 0 (-1) 0 0 0 0 0 0 0 1) (cwV 1 hts gq_steps_72_m_refuse rfl rfl rfl (by decide +kernel) ⟨Nat.le_of_ble_eq_true rfl, Nat.le_of_ble_eq_true rfl⟩) (preV_ok hPc hDc hE (ci := 11) (q0 := 0) rfl rfl) rfl rfl hl.1 rfl (lv_room (Nat.le_of_ble_eq_true rfl)) dX12_steps_11 ⟨Nat.le_of_ble_eq_true rfl, Nat.le_of_ble_eq_true rfl⟩) hS (fun q _ h => hFc q h) hFc (fun r_11_2 u9 t9 H locs ht hvm hw hB hz1 hk1 hS => ?_)
      obtain ⟨hP1, hD1⟩ := hB
      rw [ht] at hP1
      obtain ⟨hP, hD⟩ := va_join (wr := [(ma 1, .inl (kc 0, 2880, .inl at0))]) (w1 := [(ma 0, .inr (11, [.ref (ma 1), .ref (ma 2), .int 1, .long 0, .long 1, .ref (ma 3), .ref (ma 4), .ref (ma 5), .ref (ma 6), .ref (ma 7), .int 0, .int 0, .int 0, .int 0, .int 0, .int 0, .int (-1), .int (-1), .int 0, .int 0, .int 0, .ref (ma 8), .int 0, .int 0, .int (-1), .int 0, .int 0, .int 0, .ref (ma 9), .int 0, .int 0, .ref (ma 10), .ref (ma 11), .ref (ma 12), .int 0, .int 0]))]) hP hD [0] [1] rfl rfl (by decide) (by decide) hk1 hFc hP1 hD1
      have hP : va_P D vwCl [(ma 1, .inl (kc 0, 2880, .inl at0)), (ma 0, .inr (11, [.ref (ma 1), .ref (ma 2), .int 1, .long 0, .long 1, .ref (ma 3), .ref (ma 4), .ref (ma 5), .ref (ma 6), .ref (ma 7), .int 0, .int 0, .int 0, .int 0, .int 0, .int 0, .int (-1), .int (-1), .int 0, .int 0, .int 0, .ref (ma 8), .int 0, .int 0, .int (-1), .int 0, .int 0, .int 0, .ref (ma 9), .int 0, .int 0, .ref (ma 10), .ref (ma 11), .ref (ma 12), .int 0, .int 0]))] H := hP
      have hD : va_D A [(ma 1, .inl (kc 0, 2880, .inl at0)), (ma 0, .inr (11, [.ref (ma 1), .ref (ma 2), .int 1, .long 0, .long 1, .ref (ma 3), .ref (ma 4), .ref (ma 5), .ref (ma 6), .ref (ma 7), .int 0, .int 0, .int 0, .int 0, .int 0, .int 0, .int (-1), .int (-1), .int 0, .int 0, .int 0, .ref (ma 8), .int 0, .int 0, .int (-1), .int 0, .int 0, .int 0, .ref (ma 9), .int 0, .int 0, .ref (ma 10), .ref (ma 11), .ref (ma 12), .int 0, .int 0]))] := hD
      subst hw
      exact W.iret (v := (-1)) hx hb hr (fun t9 ht hW => ⟨⟨(-1), (), rfl, by first | exact (steps_m1 c_1).symm | exact (steps_m2 c_1).symm | exact (steps_m2' c_1).symm | exact (steps_m1 c_6).symm | exact (steps_m2 c_6).symm | exact (steps_m2' c_6).symm | exact (steps_m1 c_26).symm | exact (steps_m2 c_26).symm | exact (steps_m2' c_26).symm | exact (steps_m1 c_56).symm | exact (steps_m2 c_56).symm | exact (steps_m2' c_56).symm | exact (steps_m1 c_61).symm | exact (steps_m2 c_61).symm | exact (steps_m2' c_61).symm | exact (steps_m1 c_74).symm | exact (steps_m2 c_74).symm | exact (steps_m2' c_74).symm | exact (steps_m1 c_79).symm | exact (steps_m2 c_79).symm | exact (steps_m2' c_79).symm | exact (steps_m1 c_98).symm | exact (steps_m2 c_98).symm | exact (steps_m2' c_98).symm | exact (steps_m1 c_114).symm | exact (steps_m2 c_114).symm | exact (steps_m2' c_114).symm | exact (steps_m1 c_119).symm | exact (steps_m2 c_119).symm | exact (steps_m2' c_119).symm | exact (steps_m3 c_1 c_6).symm | exact (steps_m3' c_1 c_6).symm | exact (steps_m3 c_1 c_26).symm | exact (steps_m3' c_1 c_26).symm | exact (steps_m3 c_6 c_1).symm | exact (steps_m3' c_6 c_1).symm | exact (steps_m3 c_6 c_26).symm | exact (steps_m3' c_6 c_26).symm | exact (steps_m3 c_26 c_1).symm | exact (steps_m3' c_26 c_1).symm | exact (steps_m3 c_26 c_6).symm | exact (steps_m3' c_26 c_6).symm, trivial⟩, hS.F ht⟩) hS.2.2 dX12_steps_14
theorem dX12_lack_0 : decode cX12_lack 0 = .ok (.aload_n 0, 1) := by decide +kernel
theorem dX12_lack_1 : decode cX12_lack 1 = .ok (.iload_n 1, 1) := by decide +kernel
theorem dX12_lack_2 : decode cX12_lack 2 = .ok (.invokevirtual 368, 3) := by decide +kernel
theorem dX12_lack_5 : decode cX12_lack 5 = .ok (.ifCond .ne 9, 3) := by decide +kernel
theorem dX12_lack_14 : decode cX12_lack 14 = .ok (.iload_n 1, 1) := by decide +kernel
theorem dX12_lack_15 : decode cX12_lack 15 = .ok (.aload_n 0, 1) := by decide +kernel
theorem dX12_lack_16 : decode cX12_lack 16 = .ok (.iconst 3, 1) := by decide +kernel
theorem dX12_lack_17 : decode cX12_lack 17 = .ok (.invokevirtual 293, 3) := by decide +kernel
theorem dX12_lack_20 : decode cX12_lack 20 = .ok (.iand, 1) := by decide +kernel
theorem dX12_lack_21 : decode cX12_lack 21 = .ok (.ifCond .eq 9, 3) := by decide +kernel
theorem dX12_lack_30 : decode cX12_lack 30 = .ok (.iconst 0, 1) := by decide +kernel
theorem dX12_lack_31 : decode cX12_lack 31 = .ok (.istore_n 2, 1) := by decide +kernel
theorem dX12_lack_32 : decode cX12_lack 32 = .ok (.iconst 0, 1) := by decide +kernel
theorem dX12_lack_33 : decode cX12_lack 33 = .ok (.istore_n 3, 1) := by decide +kernel
theorem dX12_lack_34 : decode cX12_lack 34 = .ok (.iload_n 3, 1) := by decide +kernel
theorem dX12_lack_35 : decode cX12_lack 35 = .ok (.aload_n 0, 1) := by decide +kernel
theorem dX12_lack_36 : decode cX12_lack 36 = .ok (.getfield 7, 3) := by decide +kernel
theorem dX12_lack_39 : decode cX12_lack 39 = .ok (.iconst 0, 1) := by decide +kernel
theorem dX12_lack_40 : decode cX12_lack 40 = .ok (.iaload, 1) := by decide +kernel
theorem dX12_lack_41 : decode cX12_lack 41 = .ok (.if_icmp .ge 30, 3) := by decide +kernel
theorem dX12_lack_71 : decode cX12_lack 71 = .ok (.aload_n 0, 1) := by decide +kernel
theorem dX12_lack_72 : decode cX12_lack 72 = .ok (.iload_n 2, 1) := by decide +kernel
theorem dX12_lack_73 : decode cX12_lack 73 = .ok (.invokevirtual 76, 3) := by decide +kernel
theorem dX12_lack_76 : decode cX12_lack 76 = .ok (.ireturn, 1) := by decide +kernel
theorem dX12_lack_8 : decode cX12_lack 8 = .ok (.aload_n 0, 1) := by decide +kernel
theorem dX12_lack_9 : decode cX12_lack 9 = .ok (.iconst 1, 1) := by decide +kernel
theorem dX12_lack_10 : decode cX12_lack 10 = .ok (.invokevirtual 72, 3) := by decide +kernel
theorem dX12_lack_13 : decode cX12_lack 13 = .ok (.ireturn, 1) := by decide +kernel
def vdq_lack : List Cond := [.code yX12_lack cX12_lack 4 (some .int), .methodLink RX12 368 yX12_isSetOf, .code yX12_isSetOf cX12_isSetOf 2 (some .boolean), .fieldLink RX12 7 "SaltStreetModel" "at" "[I", .instanceMethod yX12_isSetOf, .selects RX12 yX12_isSetOf yX12_isSetOf, .initialized RX12, .methodLink RX12 293 yX12_setOf, .code yX12_setOf cX12_setOf 5 (some .int), .instanceMethod yX12_setOf, .selects RX12 yX12_setOf yX12_setOf, .methodLink RX12 76 yX12_gives, .code yX12_gives cX12_gives 2 (some .int), .fieldLink RX12 66 "SaltStreetModel" "status" "I", .instanceMethod yX12_gives, .selects RX12 yX12_gives yX12_gives, .methodLink RX12 72 yX12_refuse, .code yX12_refuse cX12_refuse 2 (some .int), .instanceMethod yX12_refuse, .selects RX12 yX12_refuse yX12_refuse]
def vq_lack : List Cond := vdq_lack ++ (wsX120 ++ ([] : List Cond))
theorem iq_lack_X12 : ∀ w ∈ wsX120, w ∈ vq_lack := fun _ h => List.mem_append_right _ (List.mem_append_left _ h)
set_option maxRecDepth 20000 in
theorem gq_lack_368_m_isSetOf : GoodIn vq_lack (wsV RX12 368 RX12 yX12_isSetOf vm_isSetOf) := (goodIn_app (goodIn_r _ [1, 4, 5, 6] rfl (by decide +kernel)) (goodIn_app (goodIn_r vdm_isSetOf [2, 3] rfl (by decide +kernel)) (goodIn_app (goodIn_sub iq_lack_X12 gdX12) goodIn_nil)))
set_option maxRecDepth 20000 in
theorem gq_lack_293_m_setOf : GoodIn vq_lack (wsV RX12 293 RX12 yX12_setOf vm_setOf) := (goodIn_app (goodIn_r _ [7, 9, 10, 6] rfl (by decide +kernel)) (goodIn_app (goodIn_r vdm_setOf [8, 3] rfl (by decide +kernel)) (goodIn_app (goodIn_sub iq_lack_X12 gdX12) goodIn_nil)))
set_option maxRecDepth 20000 in
theorem gq_lack_76_m_gives : GoodIn vq_lack (wsV RX12 76 RX12 yX12_gives vm_gives) := (goodIn_app (goodIn_r _ [11, 14, 15, 6] rfl (by decide +kernel)) (goodIn_app (goodIn_r vdm_gives [12, 13] rfl (by decide +kernel)) (goodIn_app (goodIn_sub iq_lack_X12 gdX12) goodIn_nil)))
set_option maxRecDepth 20000 in
theorem gq_lack_72_m_refuse : GoodIn vq_lack (wsV RX12 72 RX12 yX12_refuse vm_refuse) := (goodIn_app (goodIn_r _ [16, 18, 19, 6] rfl (by decide +kernel)) (goodIn_app (goodIn_r vdm_refuse [17, 13] rfl (by decide +kernel)) (goodIn_app (goodIn_sub iq_lack_X12 gdX12) goodIn_nil)))
set_option maxHeartbeats 4000000 in
set_option maxRecDepth 100000 in
theorem q_lack (l : Launch) (D : va_G) (kc : Nat → ClassId) (sz : Nat) (ma : Nat → Nat) (a0 : Int32) : Met l yX12_lack vq_lack ({ frames := 1, cells := 0, slots := 0, locals := 24 }) (va_Pc [.ref (ma 0), .int a0] (wPre D kc [(ma 0, .inr (11, [.ref (ma 1), .ref (ma 2), .int 0, .long 0, .long 1, .ref (ma 3), .ref (ma 4), .ref (ma 5), .ref (ma 6), .ref (ma 7), .int 0, .int 0, .int 0, .int 0, .int 0, .int 0, .int (-1), .int (-1), .int 0, .int 0, .int 0, .ref (ma 8), .int 0, .int 0, .int (-1), .int 0, .int 0, .int 0, .ref (ma 9), .int 0, .int 0, .ref (ma 10), .ref (ma 11), .ref (ma 12), .int 0, .int 0])), (ma 1, .inl (kc 0, 2880, .inl at0))] sz)) (va_Qi (fun (r : Int32) (_ : Unit) => r = (sLack a0)) wAny (va_A [(ma 0, .inr (11, [.ref (ma 1), .ref (ma 2), .int 0, .long 0, .long 1, .ref (ma 3), .ref (ma 4), .ref (ma 5), .ref (ma 6), .ref (ma 7), .int 0, .int 0, .int 0, .int 0, .int 0, .int 0, .int (-1), .int (-1), .int 0, .int 0, .int 0, .ref (ma 8), .int 0, .int 0, .int (-1), .int 0, .int 0, .int 0, .ref (ma 9), .int 0, .int 0, .ref (ma 10), .ref (ma 11), .ref (ma 12), .int 0, .int 0])), (ma 1, .inl (kc 0, 2880, .inl at0))] sz)) 0 0 (va_A [(ma 0, .inr (11, [.ref (ma 1), .ref (ma 2), .int 0, .long 0, .long 1, .ref (ma 3), .ref (ma 4), .ref (ma 5), .ref (ma 6), .ref (ma 7), .int 0, .int 0, .int 0, .int 0, .int 0, .int 0, .int (-1), .int (-1), .int 0, .int 0, .int 0, .ref (ma 8), .int 0, .int 0, .int (-1), .int 0, .int 0, .int 0, .ref (ma 9), .int 0, .int 0, .ref (ma 10), .ref (ma 11), .ref (ma 12), .int 0, .int 0])), (ma 1, .inl (kc 0, 2880, .inl at0))] sz) := by
  refine Met.ofW (cc := cX12_lack) (maxL := 4) (ret := (some .int)) (by decide) rfl ?_
  intro p e s m args below meth c s₁ B hml hv
  obtain ⟨rfl, hsz, hP, hE, hD0⟩ := hv
  have hx := B.exec
  have hb := B.bytes
  have hr := B.returns
  have hts := atoms_spec (ws := vq_lack) B.pre
  have hown : s.vm.findClass RX12 = some m.cls := findClass_of_methodNamed B.named
  have hlocks := B.notSynchronized
  subst hsz
  have hD := hD0.self (sz := s.heap.size)
  generalize hAe : va_A [(ma 0, .inr (11, [.ref (ma 1), .ref (ma 2), .int 0, .long 0, .long 1, .ref (ma 3), .ref (ma 4), .ref (ma 5), .ref (ma 6), .ref (ma 7), .int 0, .int 0, .int 0, .int 0, .int 0, .int 0, .int (-1), .int (-1), .int 0, .int 0, .int 0, .ref (ma 8), .int 0, .int 0, .int (-1), .int 0, .int 0, .int 0, .ref (ma 9), .int 0, .int 0, .ref (ma 10), .ref (ma 11), .ref (ma 12), .int 0, .int 0])), (ma 1, .inl (kc 0, 2880, .inl at0))] s.heap.size = A at hD ⊢
  have hA : ∀ q : Nat, s.heap.size ≤ q → A q := fun q h => by rw [← hAe]; exact Or.inr h
  have hS : va_S A s.heap s.heap [] := va_S.rf
  have hK := hE.1
  have hP : va_P D vwCl [(ma 0, .inr (11, [.ref (ma 1), .ref (ma 2), .int 0, .long 0, .long 1, .ref (ma 3), .ref (ma 4), .ref (ma 5), .ref (ma 6), .ref (ma 7), .int 0, .int 0, .int 0, .int 0, .int 0, .int 0, .int (-1), .int (-1), .int 0, .int 0, .int 0, .ref (ma 8), .int 0, .int 0, .int (-1), .int 0, .int 0, .int 0, .ref (ma 9), .int 0, .int 0, .ref (ma 10), .ref (ma 11), .ref (ma 12), .int 0, .int 0])), (ma 1, .inl (kc 0, 2880, .inl at0))] s.heap := hP
  have hl := lv_entry ([.ref (ma 0), .int a0]) (n := 4) (Nat.le_of_ble_eq_true rfl)
  rw [lg_entry_eq]
  generalize (lg_sl ([.ref (ma 0), .int a0]) ++ List.replicate (4 - (lg_sl ([.ref (ma 0), .int a0])).length) Slot.unset).toArray = ls at hl ⊢
  have hl : lv_has ls 4 [(0, .ref (ma 0)), (1, .int a0)] := hl
  refine lv_aload_n hx hb dX12_lack_0 rfl (lv_at hl 0 rfl) ?_
  refine lv_iload_n hx hb dX12_lack_1 rfl (lv_at hl 1 rfl) ?_
  have hPc := hP.sub (ws' := [(ma 0, .inr (11, [.ref (ma 1), .ref (ma 2), .int 0, .long 0, .long 1, .ref (ma 3), .ref (ma 4), .ref (ma 5), .ref (ma 6), .ref (ma 7), .int 0, .int 0, .int 0, .int 0, .int 0, .int 0, .int (-1), .int (-1), .int 0, .int 0, .int 0, .ref (ma 8), .int 0, .int 0, .int (-1), .int 0, .int 0, .int 0, .ref (ma 9), .int 0, .int 0, .ref (ma 10), .ref (ma 11), .ref (ma 12), .int 0, .int 0])), (ma 1, .inl (kc 0, 2880, .inl at0))]) [0, 1] rfl
  have hDc := hD.sub (ws' := [(ma 0, .inr (11, [.ref (ma 1), .ref (ma 2), .int 0, .long 0, .long 1, .ref (ma 3), .ref (ma 4), .ref (ma 5), .ref (ma 6), .ref (ma 7), .int 0, .int 0, .int 0, .int 0, .int 0, .int 0, .int (-1), .int (-1), .int 0, .int 0, .int 0, .ref (ma 8), .int 0, .int 0, .int (-1), .int 0, .int 0, .int 0, .ref (ma 9), .int 0, .int 0, .ref (ma 10), .ref (ma 11), .ref (ma 12), .int 0, .int 0])), (ma 1, .inl (kc 0, 2880, .inl at0))]) [0, 1] (by decide) rfl
  have hFc := va_free (wc := [(ma 0, .inr (11, [.ref (ma 1), .ref (ma 2), .int 0, .long 0, .long 1, .ref (ma 3), .ref (ma 4), .ref (ma 5), .ref (ma 6), .ref (ma 7), .int 0, .int 0, .int 0, .int 0, .int 0, .int 0, .int (-1), .int (-1), .int 0, .int 0, .int 0, .ref (ma 8), .int 0, .int 0, .int (-1), .int 0, .int 0, .int 0, .ref (ma 9), .int 0, .int 0, .ref (ma 10), .ref (ma 11), .ref (ma 12), .int 0, .int 0])), (ma 1, .inl (kc 0, 2880, .inl at0))]) hD hS hA [0, 1] rfl
  refine va_calli (va_runV (As := [.int a0]) (rest := []) ⟨hx, hb, hml, hown, hts⟩ (m_isSetOf l D kc s.heap.size ma a0) (cwV 1 hts gq_lack_368_m_isSetOf rfl rfl rfl (by decide +kernel) ⟨Nat.le_of_ble_eq_true rfl, Nat.le_of_ble_eq_true rfl⟩) (preV_ok hPc hDc hE (ci := 11) (q0 := 0) rfl rfl) rfl rfl hl.1 rfl (lv_room (Nat.le_of_ble_eq_true rfl)) dX12_lack_2 ⟨Nat.le_of_ble_eq_true rfl, Nat.le_of_ble_eq_true rfl⟩) hS (fun q _ h => hFc q h) hFc (fun r_2 u9 t9 H locs ht hvm hw hB hz1 hk1 hS => ?_)
  obtain ⟨hP1, hD1⟩ := hB
  rw [ht] at hP1
  obtain ⟨hP, hD⟩ := va_join (wr := []) (w1 := [(ma 0, .inr (11, [.ref (ma 1), .ref (ma 2), .int 0, .long 0, .long 1, .ref (ma 3), .ref (ma 4), .ref (ma 5), .ref (ma 6), .ref (ma 7), .int 0, .int 0, .int 0, .int 0, .int 0, .int 0, .int (-1), .int (-1), .int 0, .int 0, .int 0, .ref (ma 8), .int 0, .int 0, .int (-1), .int 0, .int 0, .int 0, .ref (ma 9), .int 0, .int 0, .ref (ma 10), .ref (ma 11), .ref (ma 12), .int 0, .int 0])), (ma 1, .inl (kc 0, 2880, .inl at0))]) hP hD [0, 1] [] rfl rfl (by decide) (by decide) hk1 hFc hP1 hD1
  have hP : va_P D vwCl [(ma 0, .inr (11, [.ref (ma 1), .ref (ma 2), .int 0, .long 0, .long 1, .ref (ma 3), .ref (ma 4), .ref (ma 5), .ref (ma 6), .ref (ma 7), .int 0, .int 0, .int 0, .int 0, .int 0, .int 0, .int (-1), .int (-1), .int 0, .int 0, .int 0, .ref (ma 8), .int 0, .int 0, .int (-1), .int 0, .int 0, .int 0, .ref (ma 9), .int 0, .int 0, .ref (ma 10), .ref (ma 11), .ref (ma 12), .int 0, .int 0])), (ma 1, .inl (kc 0, 2880, .inl at0))] H := hP
  have hD : va_D A [(ma 0, .inr (11, [.ref (ma 1), .ref (ma 2), .int 0, .long 0, .long 1, .ref (ma 3), .ref (ma 4), .ref (ma 5), .ref (ma 6), .ref (ma 7), .int 0, .int 0, .int 0, .int 0, .int 0, .int 0, .int (-1), .int (-1), .int 0, .int 0, .int 0, .ref (ma 8), .int 0, .int 0, .int (-1), .int 0, .int 0, .int 0, .ref (ma 9), .int 0, .int 0, .ref (ma 10), .ref (ma 11), .ref (ma 12), .int 0, .int 0])), (ma 1, .inl (kc 0, 2880, .inl at0))] := hD
  subst hw
  refine lv_if_ne (tgt := 14) hx hb dX12_lack_5 (by decide) (fun c_5 => ?_) (fun c_5 => ?_)
  · refine lv_iload_n hx hb dX12_lack_14 rfl (lv_at hl 1 rfl) ?_
    refine lv_aload_n hx hb dX12_lack_15 rfl (lv_at hl 0 rfl) ?_
    refine lv_iconst (v := 3) hx hb dX12_lack_16 (by decide) ?_
    have hPc := hP.sub (ws' := [(ma 0, .inr (11, [.ref (ma 1), .ref (ma 2), .int 0, .long 0, .long 1, .ref (ma 3), .ref (ma 4), .ref (ma 5), .ref (ma 6), .ref (ma 7), .int 0, .int 0, .int 0, .int 0, .int 0, .int 0, .int (-1), .int (-1), .int 0, .int 0, .int 0, .ref (ma 8), .int 0, .int 0, .int (-1), .int 0, .int 0, .int 0, .ref (ma 9), .int 0, .int 0, .ref (ma 10), .ref (ma 11), .ref (ma 12), .int 0, .int 0])), (ma 1, .inl (kc 0, 2880, .inl at0))]) [0, 1] rfl
    have hDc := hD.sub (ws' := [(ma 0, .inr (11, [.ref (ma 1), .ref (ma 2), .int 0, .long 0, .long 1, .ref (ma 3), .ref (ma 4), .ref (ma 5), .ref (ma 6), .ref (ma 7), .int 0, .int 0, .int 0, .int 0, .int 0, .int 0, .int (-1), .int (-1), .int 0, .int 0, .int 0, .ref (ma 8), .int 0, .int 0, .int (-1), .int 0, .int 0, .int 0, .ref (ma 9), .int 0, .int 0, .ref (ma 10), .ref (ma 11), .ref (ma 12), .int 0, .int 0])), (ma 1, .inl (kc 0, 2880, .inl at0))]) [0, 1] (by decide) rfl
    have hFc := va_free (wc := [(ma 0, .inr (11, [.ref (ma 1), .ref (ma 2), .int 0, .long 0, .long 1, .ref (ma 3), .ref (ma 4), .ref (ma 5), .ref (ma 6), .ref (ma 7), .int 0, .int 0, .int 0, .int 0, .int 0, .int 0, .int (-1), .int (-1), .int 0, .int 0, .int 0, .ref (ma 8), .int 0, .int 0, .int (-1), .int 0, .int 0, .int 0, .ref (ma 9), .int 0, .int 0, .ref (ma 10), .ref (ma 11), .ref (ma 12), .int 0, .int 0])), (ma 1, .inl (kc 0, 2880, .inl at0))]) hD hS hA [0, 1] rfl
    refine va_calli (va_runV (As := [.int 3]) (rest := [.int a0]) ⟨hx, hb, hml, hown, hts⟩ (m_setOf l D kc H.size ma 3) (cwV 1 hts gq_lack_293_m_setOf rfl rfl rfl (by decide +kernel) ⟨Nat.le_of_ble_eq_true rfl, Nat.le_of_ble_eq_true rfl⟩) (preV_ok hPc hDc hE (ci := 11) (q0 := 0) rfl rfl) rfl rfl hl.1 rfl (lv_room (Nat.le_of_ble_eq_true rfl)) dX12_lack_17 ⟨Nat.le_of_ble_eq_true rfl, Nat.le_of_ble_eq_true rfl⟩) hS (fun q _ h => hFc q h) hFc (fun r_17_1 u9 t9 H locs ht hvm hw hB hz1 hk1 hS => ?_)
    obtain ⟨hP1, hD1⟩ := hB
    rw [ht] at hP1
    obtain ⟨hP, hD⟩ := va_join (wr := []) (w1 := [(ma 0, .inr (11, [.ref (ma 1), .ref (ma 2), .int 0, .long 0, .long 1, .ref (ma 3), .ref (ma 4), .ref (ma 5), .ref (ma 6), .ref (ma 7), .int 0, .int 0, .int 0, .int 0, .int 0, .int 0, .int (-1), .int (-1), .int 0, .int 0, .int 0, .ref (ma 8), .int 0, .int 0, .int (-1), .int 0, .int 0, .int 0, .ref (ma 9), .int 0, .int 0, .ref (ma 10), .ref (ma 11), .ref (ma 12), .int 0, .int 0])), (ma 1, .inl (kc 0, 2880, .inl at0))]) hP hD [0, 1] [] rfl rfl (by decide) (by decide) hk1 hFc hP1 hD1
    have hP : va_P D vwCl [(ma 0, .inr (11, [.ref (ma 1), .ref (ma 2), .int 0, .long 0, .long 1, .ref (ma 3), .ref (ma 4), .ref (ma 5), .ref (ma 6), .ref (ma 7), .int 0, .int 0, .int 0, .int 0, .int 0, .int 0, .int (-1), .int (-1), .int 0, .int 0, .int 0, .ref (ma 8), .int 0, .int 0, .int (-1), .int 0, .int 0, .int 0, .ref (ma 9), .int 0, .int 0, .ref (ma 10), .ref (ma 11), .ref (ma 12), .int 0, .int 0])), (ma 1, .inl (kc 0, 2880, .inl at0))] H := hP
    have hD : va_D A [(ma 0, .inr (11, [.ref (ma 1), .ref (ma 2), .int 0, .long 0, .long 1, .ref (ma 3), .ref (ma 4), .ref (ma 5), .ref (ma 6), .ref (ma 7), .int 0, .int 0, .int 0, .int 0, .int 0, .int 0, .int (-1), .int (-1), .int 0, .int 0, .int 0, .ref (ma 8), .int 0, .int 0, .int (-1), .int 0, .int 0, .int 0, .ref (ma 9), .int 0, .int 0, .ref (ma 10), .ref (ma 11), .ref (ma 12), .int 0, .int 0])), (ma 1, .inl (kc 0, 2880, .inl at0))] := hD
    subst hw
    refine lv_iand hx hb dX12_lack_20 ?_
    refine lv_ci (y := 0) (and0 _) ?_
    refine lv_if_eq (tgt := 30) hx hb dX12_lack_21 (by decide) (fun _ => ?_) (fun h => absurd (by decide) h)
    refine lv_iconst (v := 0) hx hb dX12_lack_30 (by decide) ?_
    refine lv_istore_n (lv' := [(2, .int 0), (0, .ref (ma 0)), (1, .int a0)]) hx hb dX12_lack_31 rfl hl (by decide) rfl (fun ls hl => ?_)
    refine lv_iconst (v := 0) hx hb dX12_lack_32 (by decide) ?_
    refine lv_istore_n (lv' := [(3, .int 0), (2, .int 0), (0, .ref (ma 0)), (1, .int a0)]) hx hb dX12_lack_33 rfl hl (by decide) rfl (fun ls hl => ?_)
    refine lv_iload_n hx hb dX12_lack_34 rfl (lv_at hl 0 rfl) ?_
    refine lv_aload_n hx hb dX12_lack_35 rfl (lv_at hl 2 rfl) ?_
    refine va_get (D := D) (ci := 11) (v := .ref (ma 1)) (C := RX12) (T := TX12) (N := 36) hx hb hts iq_lack_X12 hown hK hP 0 rfl rfl 0 (by decide) (hts (.fieldLink RX12 7 "SaltStreetModel" "at" "[I") (List.mem_of_getElem? (i := 3) rfl)) (fun _ h9 => h9) rfl dX12_lack_36 ?_
    refine lv_iconst (v := 0) hx hb dX12_lack_39 (by decide) ?_
    refine va_iald hx hb hK hP 1 0 (f := at0) rfl rfl (by unfold vp_in; decide) dX12_lack_40 ?_
    refine lv_ci (y := 0) (by decide) ?_
    refine lv_icmp_ge (tgt := 71) hx hb dX12_lack_41 (by decide) (fun _ => ?_) (fun h => absurd (by decide) h)
    refine lv_aload_n hx hb dX12_lack_71 rfl (lv_at hl 2 rfl) ?_
    refine lv_iload_n hx hb dX12_lack_72 rfl (lv_at hl 1 rfl) ?_
    have hPc := hP.sub (ws' := [(ma 0, .inr (11, [.ref (ma 1), .ref (ma 2), .int 0, .long 0, .long 1, .ref (ma 3), .ref (ma 4), .ref (ma 5), .ref (ma 6), .ref (ma 7), .int 0, .int 0, .int 0, .int 0, .int 0, .int 0, .int (-1), .int (-1), .int 0, .int 0, .int 0, .ref (ma 8), .int 0, .int 0, .int (-1), .int 0, .int 0, .int 0, .ref (ma 9), .int 0, .int 0, .ref (ma 10), .ref (ma 11), .ref (ma 12), .int 0, .int 0]))]) [0] rfl
    have hDc := hD.sub (ws' := [(ma 0, .inr (11, [.ref (ma 1), .ref (ma 2), .int 0, .long 0, .long 1, .ref (ma 3), .ref (ma 4), .ref (ma 5), .ref (ma 6), .ref (ma 7), .int 0, .int 0, .int 0, .int 0, .int 0, .int 0, .int (-1), .int (-1), .int 0, .int 0, .int 0, .ref (ma 8), .int 0, .int 0, .int (-1), .int 0, .int 0, .int 0, .ref (ma 9), .int 0, .int 0, .ref (ma 10), .ref (ma 11), .ref (ma 12), .int 0, .int 0]))]) [0] (by decide) rfl
    have hFc := va_free (wc := [(ma 0, .inr (11, [.ref (ma 1), .ref (ma 2), .int 0, .long 0, .long 1, .ref (ma 3), .ref (ma 4), .ref (ma 5), .ref (ma 6), .ref (ma 7), .int 0, .int 0, .int 0, .int 0, .int 0, .int 0, .int (-1), .int (-1), .int 0, .int 0, .int 0, .ref (ma 8), .int 0, .int 0, .int (-1), .int 0, .int 0, .int 0, .ref (ma 9), .int 0, .int 0, .ref (ma 10), .ref (ma 11), .ref (ma 12), .int 0, .int 0]))]) hD hS hA [0] rfl
    refine va_calli (va_runV (As := [.int 0]) (rest := []) ⟨hx, hb, hml, hown, hts⟩ (m_gives l D kc H.size ma 0 0 1 0 0 0 0 0 0 (-1) (-1) 0 0 0 0 0 (-1) 0 0 0 0 0 0 0 0) (cwV 1 hts gq_lack_76_m_gives rfl rfl rfl (by decide +kernel) ⟨Nat.le_of_ble_eq_true rfl, Nat.le_of_ble_eq_true rfl⟩) (preV_ok hPc hDc hE (ci := 11) (q0 := 0) rfl rfl) rfl rfl hl.1 rfl (lv_room (Nat.le_of_ble_eq_true rfl)) dX12_lack_73 ⟨Nat.le_of_ble_eq_true rfl, Nat.le_of_ble_eq_true rfl⟩) hS (fun q _ h => hFc q h) hFc (fun r_73_1 u9 t9 H locs ht hvm hw hB hz1 hk1 hS => ?_)
    obtain ⟨hP1, hD1⟩ := hB
    rw [ht] at hP1
    obtain ⟨hP, hD⟩ := va_join (wr := [(ma 1, .inl (kc 0, 2880, .inl at0))]) (w1 := [(ma 0, .inr (11, [.ref (ma 1), .ref (ma 2), .int 0, .long 0, .long 1, .ref (ma 3), .ref (ma 4), .ref (ma 5), .ref (ma 6), .ref (ma 7), .int 0, .int 0, .int 0, .int 0, .int 0, .int 0, .int (-1), .int (-1), .int 0, .int 0, .int 0, .ref (ma 8), .int 0, .int 0, .int (-1), .int 0, .int 0, .int 0, .ref (ma 9), .int 0, .int 0, .ref (ma 10), .ref (ma 11), .ref (ma 12), .int 0, .int 0]))]) hP hD [0] [1] rfl rfl (by decide) (by decide) hk1 hFc hP1 hD1
    have hP : va_P D vwCl [(ma 1, .inl (kc 0, 2880, .inl at0)), (ma 0, .inr (11, [.ref (ma 1), .ref (ma 2), .int 0, .long 0, .long 1, .ref (ma 3), .ref (ma 4), .ref (ma 5), .ref (ma 6), .ref (ma 7), .int 0, .int 0, .int 0, .int 0, .int 0, .int 0, .int (-1), .int (-1), .int 0, .int 0, .int 0, .ref (ma 8), .int 0, .int 0, .int (-1), .int 0, .int 0, .int 0, .ref (ma 9), .int 0, .int 0, .ref (ma 10), .ref (ma 11), .ref (ma 12), .int 0, .int 0]))] H := hP
    have hD : va_D A [(ma 1, .inl (kc 0, 2880, .inl at0)), (ma 0, .inr (11, [.ref (ma 1), .ref (ma 2), .int 0, .long 0, .long 1, .ref (ma 3), .ref (ma 4), .ref (ma 5), .ref (ma 6), .ref (ma 7), .int 0, .int 0, .int 0, .int 0, .int 0, .int 0, .int (-1), .int (-1), .int 0, .int 0, .int 0, .ref (ma 8), .int 0, .int 0, .int (-1), .int 0, .int 0, .int 0, .ref (ma 9), .int 0, .int 0, .ref (ma 10), .ref (ma 11), .ref (ma 12), .int 0, .int 0]))] := hD
    subst hw
    exact W.iret (v := 0) hx hb hr (fun t9 ht hW => ⟨⟨0, (), rfl, by first | exact (if_pos c_5).symm | exact (if_neg c_5).symm | exact (if_pos c_21).symm | exact (if_neg c_21).symm | exact (if_pos c_41).symm | exact (if_neg c_41).symm | exact (if_pos c_50).symm | exact (if_neg c_50).symm, trivial⟩, hS.F ht⟩) hS.2.2 dX12_lack_76
  · refine lv_aload_n hx hb dX12_lack_8 rfl (lv_at hl 0 rfl) ?_
    refine lv_iconst (v := 1) hx hb dX12_lack_9 (by decide) ?_
    have hPc := hP.sub (ws' := [(ma 0, .inr (11, [.ref (ma 1), .ref (ma 2), .int 0, .long 0, .long 1, .ref (ma 3), .ref (ma 4), .ref (ma 5), .ref (ma 6), .ref (ma 7), .int 0, .int 0, .int 0, .int 0, .int 0, .int 0, .int (-1), .int (-1), .int 0, .int 0, .int 0, .ref (ma 8), .int 0, .int 0, .int (-1), .int 0, .int 0, .int 0, .ref (ma 9), .int 0, .int 0, .ref (ma 10), .ref (ma 11), .ref (ma 12), .int 0, .int 0]))]) [0] rfl
    have hDc := hD.sub (ws' := [(ma 0, .inr (11, [.ref (ma 1), .ref (ma 2), .int 0, .long 0, .long 1, .ref (ma 3), .ref (ma 4), .ref (ma 5), .ref (ma 6), .ref (ma 7), .int 0, .int 0, .int 0, .int 0, .int 0, .int 0, .int (-1), .int (-1), .int 0, .int 0, .int 0, .ref (ma 8), .int 0, .int 0, .int (-1), .int 0, .int 0, .int 0, .ref (ma 9), .int 0, .int 0, .ref (ma 10), .ref (ma 11), .ref (ma 12), .int 0, .int 0]))]) [0] (by decide) rfl
    have hFc := va_free (wc := [(ma 0, .inr (11, [.ref (ma 1), .ref (ma 2), .int 0, .long 0, .long 1, .ref (ma 3), .ref (ma 4), .ref (ma 5), .ref (ma 6), .ref (ma 7), .int 0, .int 0, .int 0, .int 0, .int 0, .int 0, .int (-1), .int (-1), .int 0, .int 0, .int 0, .ref (ma 8), .int 0, .int 0, .int (-1), .int 0, .int 0, .int 0, .ref (ma 9), .int 0, .int 0, .ref (ma 10), .ref (ma 11), .ref (ma 12), .int 0, .int 0]))]) hD hS hA [0] rfl
    refine va_calli (va_runV (As := [.int 1]) (rest := []) ⟨hx, hb, hml, hown, hts⟩ (m_refuse l D kc H.size ma 0 0 1 0 0 0 0 0 0 (-1) (-1) 0 0 0 0 0 (-1) 0 0 0 0 0 0 0 1) (cwV 1 hts gq_lack_72_m_refuse rfl rfl rfl (by decide +kernel) ⟨Nat.le_of_ble_eq_true rfl, Nat.le_of_ble_eq_true rfl⟩) (preV_ok hPc hDc hE (ci := 11) (q0 := 0) rfl rfl) rfl rfl hl.1 rfl (lv_room (Nat.le_of_ble_eq_true rfl)) dX12_lack_10 ⟨Nat.le_of_ble_eq_true rfl, Nat.le_of_ble_eq_true rfl⟩) hS (fun q _ h => hFc q h) hFc (fun r_10_1 u9 t9 H locs ht hvm hw hB hz1 hk1 hS => ?_)
    obtain ⟨hP1, hD1⟩ := hB
    rw [ht] at hP1
    obtain ⟨hP, hD⟩ := va_join (wr := [(ma 1, .inl (kc 0, 2880, .inl at0))]) (w1 := [(ma 0, .inr (11, [.ref (ma 1), .ref (ma 2), .int 1, .long 0, .long 1, .ref (ma 3), .ref (ma 4), .ref (ma 5), .ref (ma 6), .ref (ma 7), .int 0, .int 0, .int 0, .int 0, .int 0, .int 0, .int (-1), .int (-1), .int 0, .int 0, .int 0, .ref (ma 8), .int 0, .int 0, .int (-1), .int 0, .int 0, .int 0, .ref (ma 9), .int 0, .int 0, .ref (ma 10), .ref (ma 11), .ref (ma 12), .int 0, .int 0]))]) hP hD [0] [1] rfl rfl (by decide) (by decide) hk1 hFc hP1 hD1
    have hP : va_P D vwCl [(ma 1, .inl (kc 0, 2880, .inl at0)), (ma 0, .inr (11, [.ref (ma 1), .ref (ma 2), .int 1, .long 0, .long 1, .ref (ma 3), .ref (ma 4), .ref (ma 5), .ref (ma 6), .ref (ma 7), .int 0, .int 0, .int 0, .int 0, .int 0, .int 0, .int (-1), .int (-1), .int 0, .int 0, .int 0, .ref (ma 8), .int 0, .int 0, .int (-1), .int 0, .int 0, .int 0, .ref (ma 9), .int 0, .int 0, .ref (ma 10), .ref (ma 11), .ref (ma 12), .int 0, .int 0]))] H := hP
    have hD : va_D A [(ma 1, .inl (kc 0, 2880, .inl at0)), (ma 0, .inr (11, [.ref (ma 1), .ref (ma 2), .int 1, .long 0, .long 1, .ref (ma 3), .ref (ma 4), .ref (ma 5), .ref (ma 6), .ref (ma 7), .int 0, .int 0, .int 0, .int 0, .int 0, .int 0, .int (-1), .int (-1), .int 0, .int 0, .int 0, .ref (ma 8), .int 0, .int 0, .int (-1), .int 0, .int 0, .int 0, .ref (ma 9), .int 0, .int 0, .ref (ma 10), .ref (ma 11), .ref (ma 12), .int 0, .int 0]))] := hD
    subst hw
    exact W.iret (v := (-1)) hx hb hr (fun t9 ht hW => ⟨⟨(-1), (), rfl, by first | exact (if_pos c_5).symm | exact (if_neg c_5).symm | exact (if_pos c_21).symm | exact (if_neg c_21).symm | exact (if_pos c_41).symm | exact (if_neg c_41).symm | exact (if_pos c_50).symm | exact (if_neg c_50).symm, trivial⟩, hS.F ht⟩) hS.2.2 dX12_lack_13
theorem dX12_live_0 : decode cX12_live 0 = .ok (.iload_n 1, 1) := by decide +kernel
theorem dX12_live_1 : decode cX12_live 1 = .ok (.i2l, 1) := by decide +kernel
theorem dX12_live_2 : decode cX12_live 2 = .ok (.lconst 0, 1) := by decide +kernel
theorem dX12_live_3 : decode cX12_live 3 = .ok (.ldc2_w 377, 3) := by decide +kernel
theorem dX12_live_6 : decode cX12_live 6 = .ok (.invokestatic 298, 3) := by decide +kernel
theorem dX12_live_9 : decode cX12_live 9 = .ok (.ifCond .ne 9, 3) := by decide +kernel
theorem dX12_live_18 : decode cX12_live 18 = .ok (.aload_n 0, 1) := by decide +kernel
theorem dX12_live_19 : decode cX12_live 19 = .ok (.getfield 7, 3) := by decide +kernel
theorem dX12_live_22 : decode cX12_live 22 = .ok (.bipush 11, 2) := by decide +kernel
theorem dX12_live_24 : decode cX12_live 24 = .ok (.iaload, 1) := by decide +kernel
theorem dX12_live_25 : decode cX12_live 25 = .ok (.iconst (-1), 1) := by decide +kernel
theorem dX12_live_26 : decode cX12_live 26 = .ok (.if_icmp .ne 10, 3) := by decide +kernel
theorem dX12_live_29 : decode cX12_live 29 = .ok (.aload_n 0, 1) := by decide +kernel
theorem dX12_live_30 : decode cX12_live 30 = .ok (.bipush 6, 2) := by decide +kernel
theorem dX12_live_32 : decode cX12_live 32 = .ok (.invokevirtual 72, 3) := by decide +kernel
theorem dX12_live_35 : decode cX12_live 35 = .ok (.ireturn, 1) := by decide +kernel
theorem dX12_live_12 : decode cX12_live 12 = .ok (.aload_n 0, 1) := by decide +kernel
theorem dX12_live_13 : decode cX12_live 13 = .ok (.iconst 1, 1) := by decide +kernel
theorem dX12_live_14 : decode cX12_live 14 = .ok (.invokevirtual 72, 3) := by decide +kernel
theorem dX12_live_17 : decode cX12_live 17 = .ok (.ireturn, 1) := by decide +kernel
def vdq_live : List Cond := [.code yX12_live cX12_live 3 (some .int), .constantLong RX12 377 (9999), .methodLink RX12 298 yX12_isFrom, .code yX12_isFrom cX12_isFrom 6 (some .boolean), .static yX12_isFrom, .initialized RX12, .fieldLink RX12 7 "SaltStreetModel" "at" "[I", .methodLink RX12 72 yX12_refuse, .code yX12_refuse cX12_refuse 2 (some .int), .fieldLink RX12 66 "SaltStreetModel" "status" "I", .instanceMethod yX12_refuse, .selects RX12 yX12_refuse yX12_refuse]
def vq_live : List Cond := vdq_live ++ (wsX120 ++ ([] : List Cond))
theorem iq_live_X12 : ∀ w ∈ wsX120, w ∈ vq_live := fun _ h => List.mem_append_right _ (List.mem_append_left _ h)
set_option maxRecDepth 20000 in
theorem gq_live_298_m_isFrom : GoodIn vq_live (va_wsS RX12 298 yX12_isFrom vm_isFrom) := (goodIn_app (goodIn_r _ [2, 4, 5] rfl (by decide +kernel)) (goodIn_app (goodIn_r vdm_isFrom [3] rfl (by decide +kernel)) goodIn_nil))
set_option maxRecDepth 20000 in
theorem gq_live_72_m_refuse : GoodIn vq_live (wsV RX12 72 RX12 yX12_refuse vm_refuse) := (goodIn_app (goodIn_r _ [7, 10, 11, 5] rfl (by decide +kernel)) (goodIn_app (goodIn_r vdm_refuse [8, 9] rfl (by decide +kernel)) (goodIn_app (goodIn_sub iq_live_X12 gdX12) goodIn_nil)))
set_option maxHeartbeats 4000000 in
set_option maxRecDepth 100000 in
theorem q_live (l : Launch) (D : va_G) (kc : Nat → ClassId) (sz : Nat) (ma : Nat → Nat) (a0 : Int32) : Met l yX12_live vq_live ({ frames := 1, cells := 0, slots := 0, locals := 25 }) (va_Pc [.ref (ma 0), .int a0] (wPre D kc [(ma 0, .inr (11, [.ref (ma 1), .ref (ma 2), .int 0, .long 0, .long 1, .ref (ma 3), .ref (ma 4), .ref (ma 5), .ref (ma 6), .ref (ma 7), .int 0, .int 0, .int 0, .int 0, .int 0, .int 0, .int (-1), .int (-1), .int 0, .int 0, .int 0, .ref (ma 8), .int 0, .int 0, .int (-1), .int 0, .int 0, .int 0, .ref (ma 9), .int 0, .int 0, .ref (ma 10), .ref (ma 11), .ref (ma 12), .int 0, .int 0])), (ma 1, .inl (kc 0, 2880, .inl at0))] sz)) (va_Qi (fun (r : Int32) (_ : Unit) => r = (-1)) wAny (va_A [(ma 0, .inr (11, [.ref (ma 1), .ref (ma 2), .int 0, .long 0, .long 1, .ref (ma 3), .ref (ma 4), .ref (ma 5), .ref (ma 6), .ref (ma 7), .int 0, .int 0, .int 0, .int 0, .int 0, .int 0, .int (-1), .int (-1), .int 0, .int 0, .int 0, .ref (ma 8), .int 0, .int 0, .int (-1), .int 0, .int 0, .int 0, .ref (ma 9), .int 0, .int 0, .ref (ma 10), .ref (ma 11), .ref (ma 12), .int 0, .int 0])), (ma 1, .inl (kc 0, 2880, .inl at0))] sz)) 0 0 (va_A [(ma 0, .inr (11, [.ref (ma 1), .ref (ma 2), .int 0, .long 0, .long 1, .ref (ma 3), .ref (ma 4), .ref (ma 5), .ref (ma 6), .ref (ma 7), .int 0, .int 0, .int 0, .int 0, .int 0, .int 0, .int (-1), .int (-1), .int 0, .int 0, .int 0, .ref (ma 8), .int 0, .int 0, .int (-1), .int 0, .int 0, .int 0, .ref (ma 9), .int 0, .int 0, .ref (ma 10), .ref (ma 11), .ref (ma 12), .int 0, .int 0])), (ma 1, .inl (kc 0, 2880, .inl at0))] sz) := by
  refine Met.ofW (cc := cX12_live) (maxL := 3) (ret := (some .int)) (by decide) rfl ?_
  intro p e s m args below meth c s₁ B hml hv
  obtain ⟨rfl, hsz, hP, hE, hD0⟩ := hv
  have hx := B.exec
  have hb := B.bytes
  have hr := B.returns
  have hts := atoms_spec (ws := vq_live) B.pre
  have hown : s.vm.findClass RX12 = some m.cls := findClass_of_methodNamed B.named
  have hlocks := B.notSynchronized
  subst hsz
  have hD := hD0.self (sz := s.heap.size)
  generalize hAe : va_A [(ma 0, .inr (11, [.ref (ma 1), .ref (ma 2), .int 0, .long 0, .long 1, .ref (ma 3), .ref (ma 4), .ref (ma 5), .ref (ma 6), .ref (ma 7), .int 0, .int 0, .int 0, .int 0, .int 0, .int 0, .int (-1), .int (-1), .int 0, .int 0, .int 0, .ref (ma 8), .int 0, .int 0, .int (-1), .int 0, .int 0, .int 0, .ref (ma 9), .int 0, .int 0, .ref (ma 10), .ref (ma 11), .ref (ma 12), .int 0, .int 0])), (ma 1, .inl (kc 0, 2880, .inl at0))] s.heap.size = A at hD ⊢
  have hA : ∀ q : Nat, s.heap.size ≤ q → A q := fun q h => by rw [← hAe]; exact Or.inr h
  have hS : va_S A s.heap s.heap [] := va_S.rf
  have hK := hE.1
  have hP : va_P D vwCl [(ma 0, .inr (11, [.ref (ma 1), .ref (ma 2), .int 0, .long 0, .long 1, .ref (ma 3), .ref (ma 4), .ref (ma 5), .ref (ma 6), .ref (ma 7), .int 0, .int 0, .int 0, .int 0, .int 0, .int 0, .int (-1), .int (-1), .int 0, .int 0, .int 0, .ref (ma 8), .int 0, .int 0, .int (-1), .int 0, .int 0, .int 0, .ref (ma 9), .int 0, .int 0, .ref (ma 10), .ref (ma 11), .ref (ma 12), .int 0, .int 0])), (ma 1, .inl (kc 0, 2880, .inl at0))] s.heap := hP
  have hl := lv_entry ([.ref (ma 0), .int a0]) (n := 3) (Nat.le_of_ble_eq_true rfl)
  rw [lg_entry_eq]
  generalize (lg_sl ([.ref (ma 0), .int a0]) ++ List.replicate (3 - (lg_sl ([.ref (ma 0), .int a0])).length) Slot.unset).toArray = ls at hl ⊢
  have hl : lv_has ls 3 [(0, .ref (ma 0)), (1, .int a0)] := hl
  refine lv_iload_n hx hb dX12_live_0 rfl (lv_at hl 1 rfl) ?_
  refine lv_i2l (v := (a0.toInt64)) hx hb dX12_live_1 rfl ?_
  refine lv_lconst (v := 0) hx hb dX12_live_2 (by decide) ?_
  refine lv_ldc2 (v := 9999) hx hb hown (hts (.constantLong RX12 377 (9999)) (List.mem_of_getElem? (i := 1) rfl)) dX12_live_3 ?_
  have hPc := hP.sub (ws' := []) [] rfl
  have hDc := hD.sub (ws' := []) [] (by decide) rfl
  have hFc := va_free (wc := []) hD hS hA [] rfl
  refine va_calli (va_runS (As := [.long (a0.toInt64), .long 0, .long 9999]) (rest := []) ⟨hx, hb, hml, hown, hts⟩ (m_isFrom l D kc s.heap.size (a0.toInt64) 0 9999) (va_cwS 3 hts gq_live_298_m_isFrom rfl rfl rfl (by decide +kernel) ⟨Nat.le_of_ble_eq_true rfl, Nat.le_of_ble_eq_true rfl⟩) (preS_ok hPc hDc hE) rfl rfl hl.1 rfl (lv_room (Nat.le_of_ble_eq_true rfl)) dX12_live_6 ⟨Nat.le_of_ble_eq_true rfl, Nat.le_of_ble_eq_true rfl⟩) hS (fun q _ h => hFc q h) hFc (fun r_6 u9 t9 H locs ht hvm hw hB hz1 hk1 hS => ?_)
  obtain ⟨hP1, hD1⟩ := hB
  rw [ht] at hP1
  obtain ⟨hP, hD⟩ := va_join (wr := [(ma 0, .inr (11, [.ref (ma 1), .ref (ma 2), .int 0, .long 0, .long 1, .ref (ma 3), .ref (ma 4), .ref (ma 5), .ref (ma 6), .ref (ma 7), .int 0, .int 0, .int 0, .int 0, .int 0, .int 0, .int (-1), .int (-1), .int 0, .int 0, .int 0, .ref (ma 8), .int 0, .int 0, .int (-1), .int 0, .int 0, .int 0, .ref (ma 9), .int 0, .int 0, .ref (ma 10), .ref (ma 11), .ref (ma 12), .int 0, .int 0])), (ma 1, .inl (kc 0, 2880, .inl at0))]) (w1 := []) hP hD [] [0, 1] rfl rfl (by decide) (by decide) hk1 hFc hP1 hD1
  have hP : va_P D vwCl [(ma 0, .inr (11, [.ref (ma 1), .ref (ma 2), .int 0, .long 0, .long 1, .ref (ma 3), .ref (ma 4), .ref (ma 5), .ref (ma 6), .ref (ma 7), .int 0, .int 0, .int 0, .int 0, .int 0, .int 0, .int (-1), .int (-1), .int 0, .int 0, .int 0, .ref (ma 8), .int 0, .int 0, .int (-1), .int 0, .int 0, .int 0, .ref (ma 9), .int 0, .int 0, .ref (ma 10), .ref (ma 11), .ref (ma 12), .int 0, .int 0])), (ma 1, .inl (kc 0, 2880, .inl at0))] H := hP
  have hD : va_D A [(ma 0, .inr (11, [.ref (ma 1), .ref (ma 2), .int 0, .long 0, .long 1, .ref (ma 3), .ref (ma 4), .ref (ma 5), .ref (ma 6), .ref (ma 7), .int 0, .int 0, .int 0, .int 0, .int 0, .int 0, .int (-1), .int (-1), .int 0, .int 0, .int 0, .ref (ma 8), .int 0, .int 0, .int (-1), .int 0, .int 0, .int 0, .ref (ma 9), .int 0, .int 0, .ref (ma 10), .ref (ma 11), .ref (ma 12), .int 0, .int 0])), (ma 1, .inl (kc 0, 2880, .inl at0))] := hD
  subst hw
  refine lv_if_ne (tgt := 18) hx hb dX12_live_9 (by decide) (fun c_9 => ?_) (fun c_9 => ?_)
  · refine lv_aload_n hx hb dX12_live_18 rfl (lv_at hl 0 rfl) ?_
    refine va_get (D := D) (ci := 11) (v := .ref (ma 1)) (C := RX12) (T := TX12) (N := 36) hx hb hts iq_live_X12 hown hK hP 0 rfl rfl 0 (by decide) (hts (.fieldLink RX12 7 "SaltStreetModel" "at" "[I") (List.mem_of_getElem? (i := 6) rfl)) (fun _ h9 => h9) rfl dX12_live_19 ?_
    refine lv_bipush (v := 11) hx hb dX12_live_22 (by decide) ?_
    refine va_iald hx hb hK hP 1 0 (f := at0) rfl rfl (by unfold vp_in; decide) dX12_live_24 ?_
    refine lv_ci (y := (-1)) (by decide) ?_
    refine lv_iconst (v := (-1)) hx hb dX12_live_25 (by decide) ?_
    refine lv_icmp_ne (tgt := 36) hx hb dX12_live_26 (by decide) (fun h => absurd (by decide) h) (fun _ => ?_)
    refine lv_aload_n hx hb dX12_live_29 rfl (lv_at hl 0 rfl) ?_
    refine lv_bipush (v := 6) hx hb dX12_live_30 (by decide) ?_
    have hPc := hP.sub (ws' := [(ma 0, .inr (11, [.ref (ma 1), .ref (ma 2), .int 0, .long 0, .long 1, .ref (ma 3), .ref (ma 4), .ref (ma 5), .ref (ma 6), .ref (ma 7), .int 0, .int 0, .int 0, .int 0, .int 0, .int 0, .int (-1), .int (-1), .int 0, .int 0, .int 0, .ref (ma 8), .int 0, .int 0, .int (-1), .int 0, .int 0, .int 0, .ref (ma 9), .int 0, .int 0, .ref (ma 10), .ref (ma 11), .ref (ma 12), .int 0, .int 0]))]) [0] rfl
    have hDc := hD.sub (ws' := [(ma 0, .inr (11, [.ref (ma 1), .ref (ma 2), .int 0, .long 0, .long 1, .ref (ma 3), .ref (ma 4), .ref (ma 5), .ref (ma 6), .ref (ma 7), .int 0, .int 0, .int 0, .int 0, .int 0, .int 0, .int (-1), .int (-1), .int 0, .int 0, .int 0, .ref (ma 8), .int 0, .int 0, .int (-1), .int 0, .int 0, .int 0, .ref (ma 9), .int 0, .int 0, .ref (ma 10), .ref (ma 11), .ref (ma 12), .int 0, .int 0]))]) [0] (by decide) rfl
    have hFc := va_free (wc := [(ma 0, .inr (11, [.ref (ma 1), .ref (ma 2), .int 0, .long 0, .long 1, .ref (ma 3), .ref (ma 4), .ref (ma 5), .ref (ma 6), .ref (ma 7), .int 0, .int 0, .int 0, .int 0, .int 0, .int 0, .int (-1), .int (-1), .int 0, .int 0, .int 0, .ref (ma 8), .int 0, .int 0, .int (-1), .int 0, .int 0, .int 0, .ref (ma 9), .int 0, .int 0, .ref (ma 10), .ref (ma 11), .ref (ma 12), .int 0, .int 0]))]) hD hS hA [0] rfl
    refine va_calli (va_runV (As := [.int 6]) (rest := []) ⟨hx, hb, hml, hown, hts⟩ (m_refuse l D kc H.size ma 0 0 1 0 0 0 0 0 0 (-1) (-1) 0 0 0 0 0 (-1) 0 0 0 0 0 0 0 6) (cwV 1 hts gq_live_72_m_refuse rfl rfl rfl (by decide +kernel) ⟨Nat.le_of_ble_eq_true rfl, Nat.le_of_ble_eq_true rfl⟩) (preV_ok hPc hDc hE (ci := 11) (q0 := 0) rfl rfl) rfl rfl hl.1 rfl (lv_room (Nat.le_of_ble_eq_true rfl)) dX12_live_32 ⟨Nat.le_of_ble_eq_true rfl, Nat.le_of_ble_eq_true rfl⟩) hS (fun q _ h => hFc q h) hFc (fun r_32_1 u9 t9 H locs ht hvm hw hB hz1 hk1 hS => ?_)
    obtain ⟨hP1, hD1⟩ := hB
    rw [ht] at hP1
    obtain ⟨hP, hD⟩ := va_join (wr := [(ma 1, .inl (kc 0, 2880, .inl at0))]) (w1 := [(ma 0, .inr (11, [.ref (ma 1), .ref (ma 2), .int 6, .long 0, .long 1, .ref (ma 3), .ref (ma 4), .ref (ma 5), .ref (ma 6), .ref (ma 7), .int 0, .int 0, .int 0, .int 0, .int 0, .int 0, .int (-1), .int (-1), .int 0, .int 0, .int 0, .ref (ma 8), .int 0, .int 0, .int (-1), .int 0, .int 0, .int 0, .ref (ma 9), .int 0, .int 0, .ref (ma 10), .ref (ma 11), .ref (ma 12), .int 0, .int 0]))]) hP hD [0] [1] rfl rfl (by decide) (by decide) hk1 hFc hP1 hD1
    have hP : va_P D vwCl [(ma 1, .inl (kc 0, 2880, .inl at0)), (ma 0, .inr (11, [.ref (ma 1), .ref (ma 2), .int 6, .long 0, .long 1, .ref (ma 3), .ref (ma 4), .ref (ma 5), .ref (ma 6), .ref (ma 7), .int 0, .int 0, .int 0, .int 0, .int 0, .int 0, .int (-1), .int (-1), .int 0, .int 0, .int 0, .ref (ma 8), .int 0, .int 0, .int (-1), .int 0, .int 0, .int 0, .ref (ma 9), .int 0, .int 0, .ref (ma 10), .ref (ma 11), .ref (ma 12), .int 0, .int 0]))] H := hP
    have hD : va_D A [(ma 1, .inl (kc 0, 2880, .inl at0)), (ma 0, .inr (11, [.ref (ma 1), .ref (ma 2), .int 6, .long 0, .long 1, .ref (ma 3), .ref (ma 4), .ref (ma 5), .ref (ma 6), .ref (ma 7), .int 0, .int 0, .int 0, .int 0, .int 0, .int 0, .int (-1), .int (-1), .int 0, .int 0, .int 0, .ref (ma 8), .int 0, .int 0, .int (-1), .int 0, .int 0, .int 0, .ref (ma 9), .int 0, .int 0, .ref (ma 10), .ref (ma 11), .ref (ma 12), .int 0, .int 0]))] := hD
    subst hw
    exact W.iret (v := (-1)) hx hb hr (fun t9 ht hW => ⟨⟨(-1), (), rfl, rfl, trivial⟩, hS.F ht⟩) hS.2.2 dX12_live_35
  · refine lv_aload_n hx hb dX12_live_12 rfl (lv_at hl 0 rfl) ?_
    refine lv_iconst (v := 1) hx hb dX12_live_13 (by decide) ?_
    have hPc := hP.sub (ws' := [(ma 0, .inr (11, [.ref (ma 1), .ref (ma 2), .int 0, .long 0, .long 1, .ref (ma 3), .ref (ma 4), .ref (ma 5), .ref (ma 6), .ref (ma 7), .int 0, .int 0, .int 0, .int 0, .int 0, .int 0, .int (-1), .int (-1), .int 0, .int 0, .int 0, .ref (ma 8), .int 0, .int 0, .int (-1), .int 0, .int 0, .int 0, .ref (ma 9), .int 0, .int 0, .ref (ma 10), .ref (ma 11), .ref (ma 12), .int 0, .int 0]))]) [0] rfl
    have hDc := hD.sub (ws' := [(ma 0, .inr (11, [.ref (ma 1), .ref (ma 2), .int 0, .long 0, .long 1, .ref (ma 3), .ref (ma 4), .ref (ma 5), .ref (ma 6), .ref (ma 7), .int 0, .int 0, .int 0, .int 0, .int 0, .int 0, .int (-1), .int (-1), .int 0, .int 0, .int 0, .ref (ma 8), .int 0, .int 0, .int (-1), .int 0, .int 0, .int 0, .ref (ma 9), .int 0, .int 0, .ref (ma 10), .ref (ma 11), .ref (ma 12), .int 0, .int 0]))]) [0] (by decide) rfl
    have hFc := va_free (wc := [(ma 0, .inr (11, [.ref (ma 1), .ref (ma 2), .int 0, .long 0, .long 1, .ref (ma 3), .ref (ma 4), .ref (ma 5), .ref (ma 6), .ref (ma 7), .int 0, .int 0, .int 0, .int 0, .int 0, .int 0, .int (-1), .int (-1), .int 0, .int 0, .int 0, .ref (ma 8), .int 0, .int 0, .int (-1), .int 0, .int 0, .int 0, .ref (ma 9), .int 0, .int 0, .ref (ma 10), .ref (ma 11), .ref (ma 12), .int 0, .int 0]))]) hD hS hA [0] rfl
    refine va_calli (va_runV (As := [.int 1]) (rest := []) ⟨hx, hb, hml, hown, hts⟩ (m_refuse l D kc H.size ma 0 0 1 0 0 0 0 0 0 (-1) (-1) 0 0 0 0 0 (-1) 0 0 0 0 0 0 0 1) (cwV 1 hts gq_live_72_m_refuse rfl rfl rfl (by decide +kernel) ⟨Nat.le_of_ble_eq_true rfl, Nat.le_of_ble_eq_true rfl⟩) (preV_ok hPc hDc hE (ci := 11) (q0 := 0) rfl rfl) rfl rfl hl.1 rfl (lv_room (Nat.le_of_ble_eq_true rfl)) dX12_live_14 ⟨Nat.le_of_ble_eq_true rfl, Nat.le_of_ble_eq_true rfl⟩) hS (fun q _ h => hFc q h) hFc (fun r_14_1 u9 t9 H locs ht hvm hw hB hz1 hk1 hS => ?_)
    obtain ⟨hP1, hD1⟩ := hB
    rw [ht] at hP1
    obtain ⟨hP, hD⟩ := va_join (wr := [(ma 1, .inl (kc 0, 2880, .inl at0))]) (w1 := [(ma 0, .inr (11, [.ref (ma 1), .ref (ma 2), .int 1, .long 0, .long 1, .ref (ma 3), .ref (ma 4), .ref (ma 5), .ref (ma 6), .ref (ma 7), .int 0, .int 0, .int 0, .int 0, .int 0, .int 0, .int (-1), .int (-1), .int 0, .int 0, .int 0, .ref (ma 8), .int 0, .int 0, .int (-1), .int 0, .int 0, .int 0, .ref (ma 9), .int 0, .int 0, .ref (ma 10), .ref (ma 11), .ref (ma 12), .int 0, .int 0]))]) hP hD [0] [1] rfl rfl (by decide) (by decide) hk1 hFc hP1 hD1
    have hP : va_P D vwCl [(ma 1, .inl (kc 0, 2880, .inl at0)), (ma 0, .inr (11, [.ref (ma 1), .ref (ma 2), .int 1, .long 0, .long 1, .ref (ma 3), .ref (ma 4), .ref (ma 5), .ref (ma 6), .ref (ma 7), .int 0, .int 0, .int 0, .int 0, .int 0, .int 0, .int (-1), .int (-1), .int 0, .int 0, .int 0, .ref (ma 8), .int 0, .int 0, .int (-1), .int 0, .int 0, .int 0, .ref (ma 9), .int 0, .int 0, .ref (ma 10), .ref (ma 11), .ref (ma 12), .int 0, .int 0]))] H := hP
    have hD : va_D A [(ma 1, .inl (kc 0, 2880, .inl at0)), (ma 0, .inr (11, [.ref (ma 1), .ref (ma 2), .int 1, .long 0, .long 1, .ref (ma 3), .ref (ma 4), .ref (ma 5), .ref (ma 6), .ref (ma 7), .int 0, .int 0, .int 0, .int 0, .int 0, .int 0, .int (-1), .int (-1), .int 0, .int 0, .int 0, .ref (ma 8), .int 0, .int 0, .int (-1), .int 0, .int 0, .int 0, .ref (ma 9), .int 0, .int 0, .ref (ma 10), .ref (ma 11), .ref (ma 12), .int 0, .int 0]))] := hD
    subst hw
    exact W.iret (v := (-1)) hx hb hr (fun t9 ht hW => ⟨⟨(-1), (), rfl, rfl, trivial⟩, hS.F ht⟩) hS.2.2 dX12_live_17
theorem dX12_lived_0 : decode cX12_lived 0 = .ok (.iload_n 1, 1) := by decide +kernel
theorem dX12_lived_1 : decode cX12_lived 1 = .ok (.ifCond .lt 8, 3) := by decide +kernel
theorem dX12_lived_9 : decode cX12_lived 9 = .ok (.aload_n 0, 1) := by decide +kernel
theorem dX12_lived_10 : decode cX12_lived 10 = .ok (.iconst 1, 1) := by decide +kernel
theorem dX12_lived_11 : decode cX12_lived 11 = .ok (.invokevirtual 72, 3) := by decide +kernel
theorem dX12_lived_14 : decode cX12_lived 14 = .ok (.goto 29, 3) := by decide +kernel
theorem dX12_lived_43 : decode cX12_lived 43 = .ok (.ireturn, 1) := by decide +kernel
theorem dX12_lived_4 : decode cX12_lived 4 = .ok (.iload_n 1, 1) := by decide +kernel
theorem dX12_lived_5 : decode cX12_lived 5 = .ok (.iconst 4, 1) := by decide +kernel
theorem dX12_lived_6 : decode cX12_lived 6 = .ok (.if_icmp .le 11, 3) := by decide +kernel
theorem dX12_lived_17 : decode cX12_lived 17 = .ok (.aload_n 0, 1) := by decide +kernel
theorem dX12_lived_18 : decode cX12_lived 18 = .ok (.getfield 415, 3) := by decide +kernel
theorem dX12_lived_21 : decode cX12_lived 21 = .ok (.ifCond .eq 16, 3) := by decide +kernel
theorem dX12_lived_37 : decode cX12_lived 37 = .ok (.aload_n 0, 1) := by decide +kernel
theorem dX12_lived_38 : decode cX12_lived 38 = .ok (.bipush 6, 2) := by decide +kernel
theorem dX12_lived_40 : decode cX12_lived 40 = .ok (.invokevirtual 72, 3) := by decide +kernel
def vdq_lived : List Cond := [.code yX12_lived cX12_lived 2 (some .int), .methodLink RX12 72 yX12_refuse, .code yX12_refuse cX12_refuse 2 (some .int), .fieldLink RX12 66 "SaltStreetModel" "status" "I", .instanceMethod yX12_refuse, .selects RX12 yX12_refuse yX12_refuse, .initialized RX12, .fieldLink RX12 415 "SaltStreetModel" "isTold" "Z"]
def vq_lived : List Cond := vdq_lived ++ (wsX120 ++ ([] : List Cond))
theorem iq_lived_X12 : ∀ w ∈ wsX120, w ∈ vq_lived := fun _ h => List.mem_append_right _ (List.mem_append_left _ h)
set_option maxRecDepth 20000 in
theorem gq_lived_72_m_refuse : GoodIn vq_lived (wsV RX12 72 RX12 yX12_refuse vm_refuse) := (goodIn_app (goodIn_r _ [1, 4, 5, 6] rfl (by decide +kernel)) (goodIn_app (goodIn_r vdm_refuse [2, 3] rfl (by decide +kernel)) (goodIn_app (goodIn_sub iq_lived_X12 gdX12) goodIn_nil)))
set_option maxHeartbeats 4000000 in
set_option maxRecDepth 100000 in
theorem q_lived (l : Launch) (D : va_G) (kc : Nat → ClassId) (sz : Nat) (ma : Nat → Nat) (a0 : Int32) : Met l yX12_lived vq_lived ({ frames := 1, cells := 0, slots := 0, locals := 21 }) (va_Pc [.ref (ma 0), .int a0] (wPre D kc [(ma 0, .inr (11, [.ref (ma 1), .ref (ma 2), .int 0, .long 0, .long 1, .ref (ma 3), .ref (ma 4), .ref (ma 5), .ref (ma 6), .ref (ma 7), .int 0, .int 0, .int 0, .int 0, .int 0, .int 0, .int (-1), .int (-1), .int 0, .int 0, .int 0, .ref (ma 8), .int 0, .int 0, .int (-1), .int 0, .int 0, .int 0, .ref (ma 9), .int 0, .int 0, .ref (ma 10), .ref (ma 11), .ref (ma 12), .int 0, .int 0]))] sz)) (va_Qi (fun (r : Int32) (_ : Unit) => r = (-1)) wAny (va_A [(ma 0, .inr (11, [.ref (ma 1), .ref (ma 2), .int 0, .long 0, .long 1, .ref (ma 3), .ref (ma 4), .ref (ma 5), .ref (ma 6), .ref (ma 7), .int 0, .int 0, .int 0, .int 0, .int 0, .int 0, .int (-1), .int (-1), .int 0, .int 0, .int 0, .ref (ma 8), .int 0, .int 0, .int (-1), .int 0, .int 0, .int 0, .ref (ma 9), .int 0, .int 0, .ref (ma 10), .ref (ma 11), .ref (ma 12), .int 0, .int 0]))] sz)) 0 0 (va_A [(ma 0, .inr (11, [.ref (ma 1), .ref (ma 2), .int 0, .long 0, .long 1, .ref (ma 3), .ref (ma 4), .ref (ma 5), .ref (ma 6), .ref (ma 7), .int 0, .int 0, .int 0, .int 0, .int 0, .int 0, .int (-1), .int (-1), .int 0, .int 0, .int 0, .ref (ma 8), .int 0, .int 0, .int (-1), .int 0, .int 0, .int 0, .ref (ma 9), .int 0, .int 0, .ref (ma 10), .ref (ma 11), .ref (ma 12), .int 0, .int 0]))] sz) := by
  refine Met.ofW (cc := cX12_lived) (maxL := 2) (ret := (some .int)) (by decide) rfl ?_
  intro p e s m args below meth c s₁ B hml hv
  obtain ⟨rfl, hsz, hP, hE, hD0⟩ := hv
  have hx := B.exec
  have hb := B.bytes
  have hr := B.returns
  have hts := atoms_spec (ws := vq_lived) B.pre
  have hown : s.vm.findClass RX12 = some m.cls := findClass_of_methodNamed B.named
  have hlocks := B.notSynchronized
  subst hsz
  have hD := hD0.self (sz := s.heap.size)
  generalize hAe : va_A [(ma 0, .inr (11, [.ref (ma 1), .ref (ma 2), .int 0, .long 0, .long 1, .ref (ma 3), .ref (ma 4), .ref (ma 5), .ref (ma 6), .ref (ma 7), .int 0, .int 0, .int 0, .int 0, .int 0, .int 0, .int (-1), .int (-1), .int 0, .int 0, .int 0, .ref (ma 8), .int 0, .int 0, .int (-1), .int 0, .int 0, .int 0, .ref (ma 9), .int 0, .int 0, .ref (ma 10), .ref (ma 11), .ref (ma 12), .int 0, .int 0]))] s.heap.size = A at hD ⊢
  have hA : ∀ q : Nat, s.heap.size ≤ q → A q := fun q h => by rw [← hAe]; exact Or.inr h
  have hS : va_S A s.heap s.heap [] := va_S.rf
  have hK := hE.1
  have hP : va_P D vwCl [(ma 0, .inr (11, [.ref (ma 1), .ref (ma 2), .int 0, .long 0, .long 1, .ref (ma 3), .ref (ma 4), .ref (ma 5), .ref (ma 6), .ref (ma 7), .int 0, .int 0, .int 0, .int 0, .int 0, .int 0, .int (-1), .int (-1), .int 0, .int 0, .int 0, .ref (ma 8), .int 0, .int 0, .int (-1), .int 0, .int 0, .int 0, .ref (ma 9), .int 0, .int 0, .ref (ma 10), .ref (ma 11), .ref (ma 12), .int 0, .int 0]))] s.heap := hP
  have hl := lv_entry ([.ref (ma 0), .int a0]) (n := 2) (Nat.le_of_ble_eq_true rfl)
  rw [lg_entry_eq]
  generalize (lg_sl ([.ref (ma 0), .int a0]) ++ List.replicate (2 - (lg_sl ([.ref (ma 0), .int a0])).length) Slot.unset).toArray = ls at hl ⊢
  have hl : lv_has ls 2 [(0, .ref (ma 0)), (1, .int a0)] := hl
  refine lv_iload_n hx hb dX12_lived_0 rfl (lv_at hl 1 rfl) ?_
  refine lv_if_lt (tgt := 9) hx hb dX12_lived_1 (by decide) (fun c_1 => ?_) (fun c_1 => ?_)
  · refine lv_aload_n hx hb dX12_lived_9 rfl (lv_at hl 0 rfl) ?_
    refine lv_iconst (v := 1) hx hb dX12_lived_10 (by decide) ?_
    have hPc := hP.sub (ws' := [(ma 0, .inr (11, [.ref (ma 1), .ref (ma 2), .int 0, .long 0, .long 1, .ref (ma 3), .ref (ma 4), .ref (ma 5), .ref (ma 6), .ref (ma 7), .int 0, .int 0, .int 0, .int 0, .int 0, .int 0, .int (-1), .int (-1), .int 0, .int 0, .int 0, .ref (ma 8), .int 0, .int 0, .int (-1), .int 0, .int 0, .int 0, .ref (ma 9), .int 0, .int 0, .ref (ma 10), .ref (ma 11), .ref (ma 12), .int 0, .int 0]))]) [0] rfl
    have hDc := hD.sub (ws' := [(ma 0, .inr (11, [.ref (ma 1), .ref (ma 2), .int 0, .long 0, .long 1, .ref (ma 3), .ref (ma 4), .ref (ma 5), .ref (ma 6), .ref (ma 7), .int 0, .int 0, .int 0, .int 0, .int 0, .int 0, .int (-1), .int (-1), .int 0, .int 0, .int 0, .ref (ma 8), .int 0, .int 0, .int (-1), .int 0, .int 0, .int 0, .ref (ma 9), .int 0, .int 0, .ref (ma 10), .ref (ma 11), .ref (ma 12), .int 0, .int 0]))]) [0] (by decide) rfl
    have hFc := va_free (wc := [(ma 0, .inr (11, [.ref (ma 1), .ref (ma 2), .int 0, .long 0, .long 1, .ref (ma 3), .ref (ma 4), .ref (ma 5), .ref (ma 6), .ref (ma 7), .int 0, .int 0, .int 0, .int 0, .int 0, .int 0, .int (-1), .int (-1), .int 0, .int 0, .int 0, .ref (ma 8), .int 0, .int 0, .int (-1), .int 0, .int 0, .int 0, .ref (ma 9), .int 0, .int 0, .ref (ma 10), .ref (ma 11), .ref (ma 12), .int 0, .int 0]))]) hD hS hA [0] rfl
    refine va_calli (va_runV (As := [.int 1]) (rest := []) ⟨hx, hb, hml, hown, hts⟩ (m_refuse l D kc s.heap.size ma 0 0 1 0 0 0 0 0 0 (-1) (-1) 0 0 0 0 0 (-1) 0 0 0 0 0 0 0 1) (cwV 1 hts gq_lived_72_m_refuse rfl rfl rfl (by decide +kernel) ⟨Nat.le_of_ble_eq_true rfl, Nat.le_of_ble_eq_true rfl⟩) (preV_ok hPc hDc hE (ci := 11) (q0 := 0) rfl rfl) rfl rfl hl.1 rfl (lv_room (Nat.le_of_ble_eq_true rfl)) dX12_lived_11 ⟨Nat.le_of_ble_eq_true rfl, Nat.le_of_ble_eq_true rfl⟩) hS (fun q _ h => hFc q h) hFc (fun r_11_1 u9 t9 H locs ht hvm hw hB hz1 hk1 hS => ?_)
    obtain ⟨hP1, hD1⟩ := hB
    rw [ht] at hP1
    obtain ⟨hP, hD⟩ := va_join (wr := []) (w1 := [(ma 0, .inr (11, [.ref (ma 1), .ref (ma 2), .int 1, .long 0, .long 1, .ref (ma 3), .ref (ma 4), .ref (ma 5), .ref (ma 6), .ref (ma 7), .int 0, .int 0, .int 0, .int 0, .int 0, .int 0, .int (-1), .int (-1), .int 0, .int 0, .int 0, .ref (ma 8), .int 0, .int 0, .int (-1), .int 0, .int 0, .int 0, .ref (ma 9), .int 0, .int 0, .ref (ma 10), .ref (ma 11), .ref (ma 12), .int 0, .int 0]))]) hP hD [0] [] rfl rfl (by decide) (by decide) hk1 hFc hP1 hD1
    have hP : va_P D vwCl [(ma 0, .inr (11, [.ref (ma 1), .ref (ma 2), .int 1, .long 0, .long 1, .ref (ma 3), .ref (ma 4), .ref (ma 5), .ref (ma 6), .ref (ma 7), .int 0, .int 0, .int 0, .int 0, .int 0, .int 0, .int (-1), .int (-1), .int 0, .int 0, .int 0, .ref (ma 8), .int 0, .int 0, .int (-1), .int 0, .int 0, .int 0, .ref (ma 9), .int 0, .int 0, .ref (ma 10), .ref (ma 11), .ref (ma 12), .int 0, .int 0]))] H := hP
    have hD : va_D A [(ma 0, .inr (11, [.ref (ma 1), .ref (ma 2), .int 1, .long 0, .long 1, .ref (ma 3), .ref (ma 4), .ref (ma 5), .ref (ma 6), .ref (ma 7), .int 0, .int 0, .int 0, .int 0, .int 0, .int 0, .int (-1), .int (-1), .int 0, .int 0, .int 0, .ref (ma 8), .int 0, .int 0, .int (-1), .int 0, .int 0, .int 0, .ref (ma 9), .int 0, .int 0, .ref (ma 10), .ref (ma 11), .ref (ma 12), .int 0, .int 0]))] := hD
    subst hw
    refine lv_goto (tgt := 43) hx hb dX12_lived_14 (by decide) ?_
    exact W.iret (v := (-1)) hx hb hr (fun t9 ht hW => ⟨⟨(-1), (), rfl, rfl, trivial⟩, hS.F ht⟩) hS.2.2 dX12_lived_43
  · refine lv_iload_n hx hb dX12_lived_4 rfl (lv_at hl 1 rfl) ?_
    refine lv_iconst (v := 4) hx hb dX12_lived_5 (by decide) ?_
    refine lv_icmp_le (tgt := 17) hx hb dX12_lived_6 (by decide) (fun c_6 => ?_) (fun c_6 => ?_)
    · refine lv_aload_n hx hb dX12_lived_17 rfl (lv_at hl 0 rfl) ?_
      refine va_get (D := D) (ci := 11) (v := .int 0) (C := RX12) (T := TX12) (N := 36) hx hb hts iq_lived_X12 hown hK hP 0 rfl rfl 34 (by decide) (hts (.fieldLink RX12 415 "SaltStreetModel" "isTold" "Z") (List.mem_of_getElem? (i := 7) rfl)) (fun _ h9 => h9) rfl dX12_lived_18 ?_
      refine lv_if_eq (tgt := 37) hx hb dX12_lived_21 (by decide) (fun _ => ?_) (fun h => absurd (by decide) h)
      refine lv_aload_n hx hb dX12_lived_37 rfl (lv_at hl 0 rfl) ?_
      refine lv_bipush (v := 6) hx hb dX12_lived_38 (by decide) ?_
      have hPc := hP.sub (ws' := [(ma 0, .inr (11, [.ref (ma 1), .ref (ma 2), .int 0, .long 0, .long 1, .ref (ma 3), .ref (ma 4), .ref (ma 5), .ref (ma 6), .ref (ma 7), .int 0, .int 0, .int 0, .int 0, .int 0, .int 0, .int (-1), .int (-1), .int 0, .int 0, .int 0, .ref (ma 8), .int 0, .int 0, .int (-1), .int 0, .int 0, .int 0, .ref (ma 9), .int 0, .int 0, .ref (ma 10), .ref (ma 11), .ref (ma 12), .int 0, .int 0]))]) [0] rfl
      have hDc := hD.sub (ws' := [(ma 0, .inr (11, [.ref (ma 1), .ref (ma 2), .int 0, .long 0, .long 1, .ref (ma 3), .ref (ma 4), .ref (ma 5), .ref (ma 6), .ref (ma 7), .int 0, .int 0, .int 0, .int 0, .int 0, .int 0, .int (-1), .int (-1), .int 0, .int 0, .int 0, .ref (ma 8), .int 0, .int 0, .int (-1), .int 0, .int 0, .int 0, .ref (ma 9), .int 0, .int 0, .ref (ma 10), .ref (ma 11), .ref (ma 12), .int 0, .int 0]))]) [0] (by decide) rfl
      have hFc := va_free (wc := [(ma 0, .inr (11, [.ref (ma 1), .ref (ma 2), .int 0, .long 0, .long 1, .ref (ma 3), .ref (ma 4), .ref (ma 5), .ref (ma 6), .ref (ma 7), .int 0, .int 0, .int 0, .int 0, .int 0, .int 0, .int (-1), .int (-1), .int 0, .int 0, .int 0, .ref (ma 8), .int 0, .int 0, .int (-1), .int 0, .int 0, .int 0, .ref (ma 9), .int 0, .int 0, .ref (ma 10), .ref (ma 11), .ref (ma 12), .int 0, .int 0]))]) hD hS hA [0] rfl
      refine va_calli (va_runV (As := [.int 6]) (rest := []) ⟨hx, hb, hml, hown, hts⟩ (m_refuse l D kc s.heap.size ma 0 0 1 0 0 0 0 0 0 (-1) (-1) 0 0 0 0 0 (-1) 0 0 0 0 0 0 0 6) (cwV 1 hts gq_lived_72_m_refuse rfl rfl rfl (by decide +kernel) ⟨Nat.le_of_ble_eq_true rfl, Nat.le_of_ble_eq_true rfl⟩) (preV_ok hPc hDc hE (ci := 11) (q0 := 0) rfl rfl) rfl rfl hl.1 rfl (lv_room (Nat.le_of_ble_eq_true rfl)) dX12_lived_40 ⟨Nat.le_of_ble_eq_true rfl, Nat.le_of_ble_eq_true rfl⟩) hS (fun q _ h => hFc q h) hFc (fun r_40_2 u9 t9 H locs ht hvm hw hB hz1 hk1 hS => ?_)
      obtain ⟨hP1, hD1⟩ := hB
      rw [ht] at hP1
      obtain ⟨hP, hD⟩ := va_join (wr := []) (w1 := [(ma 0, .inr (11, [.ref (ma 1), .ref (ma 2), .int 6, .long 0, .long 1, .ref (ma 3), .ref (ma 4), .ref (ma 5), .ref (ma 6), .ref (ma 7), .int 0, .int 0, .int 0, .int 0, .int 0, .int 0, .int (-1), .int (-1), .int 0, .int 0, .int 0, .ref (ma 8), .int 0, .int 0, .int (-1), .int 0, .int 0, .int 0, .ref (ma 9), .int 0, .int 0, .ref (ma 10), .ref (ma 11), .ref (ma 12), .int 0, .int 0]))]) hP hD [0] [] rfl rfl (by decide) (by decide) hk1 hFc hP1 hD1
      have hP : va_P D vwCl [(ma 0, .inr (11, [.ref (ma 1), .ref (ma 2), .int 6, .long 0, .long 1, .ref (ma 3), .ref (ma 4), .ref (ma 5), .ref (ma 6), .ref (ma 7), .int 0, .int 0, .int 0, .int 0, .int 0, .int 0, .int (-1), .int (-1), .int 0, .int 0, .int 0, .ref (ma 8), .int 0, .int 0, .int (-1), .int 0, .int 0, .int 0, .ref (ma 9), .int 0, .int 0, .ref (ma 10), .ref (ma 11), .ref (ma 12), .int 0, .int 0]))] H := hP
      have hD : va_D A [(ma 0, .inr (11, [.ref (ma 1), .ref (ma 2), .int 6, .long 0, .long 1, .ref (ma 3), .ref (ma 4), .ref (ma 5), .ref (ma 6), .ref (ma 7), .int 0, .int 0, .int 0, .int 0, .int 0, .int 0, .int (-1), .int (-1), .int 0, .int 0, .int 0, .ref (ma 8), .int 0, .int 0, .int (-1), .int 0, .int 0, .int 0, .ref (ma 9), .int 0, .int 0, .ref (ma 10), .ref (ma 11), .ref (ma 12), .int 0, .int 0]))] := hD
      subst hw
      exact W.iret (v := (-1)) hx hb hr (fun t9 ht hW => ⟨⟨(-1), (), rfl, rfl, trivial⟩, hS.F ht⟩) hS.2.2 dX12_lived_43
    · refine lv_aload_n hx hb dX12_lived_9 rfl (lv_at hl 0 rfl) ?_
      refine lv_iconst (v := 1) hx hb dX12_lived_10 (by decide) ?_
      have hPc := hP.sub (ws' := [(ma 0, .inr (11, [.ref (ma 1), .ref (ma 2), .int 0, .long 0, .long 1, .ref (ma 3), .ref (ma 4), .ref (ma 5), .ref (ma 6), .ref (ma 7), .int 0, .int 0, .int 0, .int 0, .int 0, .int 0, .int (-1), .int (-1), .int 0, .int 0, .int 0, .ref (ma 8), .int 0, .int 0, .int (-1), .int 0, .int 0, .int 0, .ref (ma 9), .int 0, .int 0, .ref (ma 10), .ref (ma 11), .ref (ma 12), .int 0, .int 0]))]) [0] rfl
      have hDc := hD.sub (ws' := [(ma 0, .inr (11, [.ref (ma 1), .ref (ma 2), .int 0, .long 0, .long 1, .ref (ma 3), .ref (ma 4), .ref (ma 5), .ref (ma 6), .ref (ma 7), .int 0, .int 0, .int 0, .int 0, .int 0, .int 0, .int (-1), .int (-1), .int 0, .int 0, .int 0, .ref (ma 8), .int 0, .int 0, .int (-1), .int 0, .int 0, .int 0, .ref (ma 9), .int 0, .int 0, .ref (ma 10), .ref (ma 11), .ref (ma 12), .int 0, .int 0]))]) [0] (by decide) rfl
      have hFc := va_free (wc := [(ma 0, .inr (11, [.ref (ma 1), .ref (ma 2), .int 0, .long 0, .long 1, .ref (ma 3), .ref (ma 4), .ref (ma 5), .ref (ma 6), .ref (ma 7), .int 0, .int 0, .int 0, .int 0, .int 0, .int 0, .int (-1), .int (-1), .int 0, .int 0, .int 0, .ref (ma 8), .int 0, .int 0, .int (-1), .int 0, .int 0, .int 0, .ref (ma 9), .int 0, .int 0, .ref (ma 10), .ref (ma 11), .ref (ma 12), .int 0, .int 0]))]) hD hS hA [0] rfl
      refine va_calli (va_runV (As := [.int 1]) (rest := []) ⟨hx, hb, hml, hown, hts⟩ (m_refuse l D kc s.heap.size ma 0 0 1 0 0 0 0 0 0 (-1) (-1) 0 0 0 0 0 (-1) 0 0 0 0 0 0 0 1) (cwV 1 hts gq_lived_72_m_refuse rfl rfl rfl (by decide +kernel) ⟨Nat.le_of_ble_eq_true rfl, Nat.le_of_ble_eq_true rfl⟩) (preV_ok hPc hDc hE (ci := 11) (q0 := 0) rfl rfl) rfl rfl hl.1 rfl (lv_room (Nat.le_of_ble_eq_true rfl)) dX12_lived_11 ⟨Nat.le_of_ble_eq_true rfl, Nat.le_of_ble_eq_true rfl⟩) hS (fun q _ h => hFc q h) hFc (fun r_11_2 u9 t9 H locs ht hvm hw hB hz1 hk1 hS => ?_)
      obtain ⟨hP1, hD1⟩ := hB
      rw [ht] at hP1
      obtain ⟨hP, hD⟩ := va_join (wr := []) (w1 := [(ma 0, .inr (11, [.ref (ma 1), .ref (ma 2), .int 1, .long 0, .long 1, .ref (ma 3), .ref (ma 4), .ref (ma 5), .ref (ma 6), .ref (ma 7), .int 0, .int 0, .int 0, .int 0, .int 0, .int 0, .int (-1), .int (-1), .int 0, .int 0, .int 0, .ref (ma 8), .int 0, .int 0, .int (-1), .int 0, .int 0, .int 0, .ref (ma 9), .int 0, .int 0, .ref (ma 10), .ref (ma 11), .ref (ma 12), .int 0, .int 0]))]) hP hD [0] [] rfl rfl (by decide) (by decide) hk1 hFc hP1 hD1
      have hP : va_P D vwCl [(ma 0, .inr (11, [.ref (ma 1), .ref (ma 2), .int 1, .long 0, .long 1, .ref (ma 3), .ref (ma 4), .ref (ma 5), .ref (ma 6), .ref (ma 7), .int 0, .int 0, .int 0, .int 0, .int 0, .int 0, .int (-1), .int (-1), .int 0, .int 0, .int 0, .ref (ma 8), .int 0, .int 0, .int (-1), .int 0, .int 0, .int 0, .ref (ma 9), .int 0, .int 0, .ref (ma 10), .ref (ma 11), .ref (ma 12), .int 0, .int 0]))] H := hP
      have hD : va_D A [(ma 0, .inr (11, [.ref (ma 1), .ref (ma 2), .int 1, .long 0, .long 1, .ref (ma 3), .ref (ma 4), .ref (ma 5), .ref (ma 6), .ref (ma 7), .int 0, .int 0, .int 0, .int 0, .int 0, .int 0, .int (-1), .int (-1), .int 0, .int 0, .int 0, .ref (ma 8), .int 0, .int 0, .int (-1), .int 0, .int 0, .int 0, .ref (ma 9), .int 0, .int 0, .ref (ma 10), .ref (ma 11), .ref (ma 12), .int 0, .int 0]))] := hD
      subst hw
      refine lv_goto (tgt := 43) hx hb dX12_lived_14 (by decide) ?_
      exact W.iret (v := (-1)) hx hb hr (fun t9 ht hW => ⟨⟨(-1), (), rfl, rfl, trivial⟩, hS.F ht⟩) hS.2.2 dX12_lived_43
theorem dX12_odds_0 : decode cX12_odds 0 = .ok (.aload_n 0, 1) := by decide +kernel
theorem dX12_odds_1 : decode cX12_odds 1 = .ok (.iload_n 1, 1) := by decide +kernel
theorem dX12_odds_2 : decode cX12_odds 2 = .ok (.invokevirtual 368, 3) := by decide +kernel
theorem dX12_odds_5 : decode cX12_odds 5 = .ok (.ifCond .eq 38, 3) := by decide +kernel
theorem dX12_odds_43 : decode cX12_odds 43 = .ok (.aload_n 0, 1) := by decide +kernel
theorem dX12_odds_44 : decode cX12_odds 44 = .ok (.iconst 1, 1) := by decide +kernel
theorem dX12_odds_45 : decode cX12_odds 45 = .ok (.invokevirtual 79, 3) := by decide +kernel
theorem dX12_odds_48 : decode cX12_odds 48 = .ok (.ireturn, 1) := by decide +kernel
theorem dX12_odds_8 : decode cX12_odds 8 = .ok (.iload_n 2, 1) := by decide +kernel
theorem dX12_odds_9 : decode cX12_odds 9 = .ok (.i2l, 1) := by decide +kernel
theorem dX12_odds_10 : decode cX12_odds 10 = .ok (.lconst 0, 1) := by decide +kernel
theorem dX12_odds_11 : decode cX12_odds 11 = .ok (.ldc2_w 377, 3) := by decide +kernel
theorem dX12_odds_14 : decode cX12_odds 14 = .ok (.invokestatic 298, 3) := by decide +kernel
theorem dX12_odds_17 : decode cX12_odds 17 = .ok (.ifCond .eq 26, 3) := by decide +kernel
theorem dX12_odds_20 : decode cX12_odds 20 = .ok (.iload_n 3, 1) := by decide +kernel
theorem dX12_odds_21 : decode cX12_odds 21 = .ok (.i2l, 1) := by decide +kernel
theorem dX12_odds_22 : decode cX12_odds 22 = .ok (.lconst 1, 1) := by decide +kernel
theorem dX12_odds_23 : decode cX12_odds 23 = .ok (.ldc2_w 419, 3) := by decide +kernel
theorem dX12_odds_26 : decode cX12_odds 26 = .ok (.invokestatic 298, 3) := by decide +kernel
theorem dX12_odds_29 : decode cX12_odds 29 = .ok (.ifCond .eq 14, 3) := by decide +kernel
theorem dX12_odds_32 : decode cX12_odds 32 = .ok (.iload_n 2, 1) := by decide +kernel
theorem dX12_odds_33 : decode cX12_odds 33 = .ok (.iload_n 3, 1) := by decide +kernel
theorem dX12_odds_34 : decode cX12_odds 34 = .ok (.iadd, 1) := by decide +kernel
theorem dX12_odds_35 : decode cX12_odds 35 = .ok (.iconst 1, 1) := by decide +kernel
theorem dX12_odds_36 : decode cX12_odds 36 = .ok (.isub, 1) := by decide +kernel
theorem dX12_odds_37 : decode cX12_odds 37 = .ok (.sipush 9999, 3) := by decide +kernel
theorem dX12_odds_40 : decode cX12_odds 40 = .ok (.if_icmp .le 9, 3) := by decide +kernel
theorem dX12_odds_49 : decode cX12_odds 49 = .ok (.aload_n 0, 1) := by decide +kernel
theorem dX12_odds_50 : decode cX12_odds 50 = .ok (.getfield 7, 3) := by decide +kernel
theorem dX12_odds_53 : decode cX12_odds 53 = .ok (.bipush 11, 2) := by decide +kernel
theorem dX12_odds_55 : decode cX12_odds 55 = .ok (.iaload, 1) := by decide +kernel
theorem dX12_odds_56 : decode cX12_odds 56 = .ok (.iconst (-1), 1) := by decide +kernel
theorem dX12_odds_57 : decode cX12_odds 57 = .ok (.if_icmp .ne 10, 3) := by decide +kernel
theorem dX12_odds_60 : decode cX12_odds 60 = .ok (.aload_n 0, 1) := by decide +kernel
theorem dX12_odds_61 : decode cX12_odds 61 = .ok (.bipush 6, 2) := by decide +kernel
theorem dX12_odds_63 : decode cX12_odds 63 = .ok (.invokevirtual 79, 3) := by decide +kernel
theorem dX12_odds_66 : decode cX12_odds 66 = .ok (.ireturn, 1) := by decide +kernel
def vdq_odds : List Cond := [.code yX12_odds cX12_odds 6 (some .boolean), .methodLink RX12 368 yX12_isSetOf, .code yX12_isSetOf cX12_isSetOf 2 (some .boolean), .fieldLink RX12 7 "SaltStreetModel" "at" "[I", .instanceMethod yX12_isSetOf, .selects RX12 yX12_isSetOf yX12_isSetOf, .initialized RX12, .methodLink RX12 79 yX12_is, .code yX12_is cX12_is 2 (some .boolean), .fieldLink RX12 66 "SaltStreetModel" "status" "I", .instanceMethod yX12_is, .selects RX12 yX12_is yX12_is, .constantLong RX12 377 (9999), .methodLink RX12 298 yX12_isFrom, .code yX12_isFrom cX12_isFrom 6 (some .boolean), .static yX12_isFrom, .constantLong RX12 419 (20)]
def vq_odds : List Cond := vdq_odds ++ (wsX120 ++ ([] : List Cond))
theorem iq_odds_X12 : ∀ w ∈ wsX120, w ∈ vq_odds := fun _ h => List.mem_append_right _ (List.mem_append_left _ h)
set_option maxRecDepth 20000 in
theorem gq_odds_368_m_isSetOf : GoodIn vq_odds (wsV RX12 368 RX12 yX12_isSetOf vm_isSetOf) := (goodIn_app (goodIn_r _ [1, 4, 5, 6] rfl (by decide +kernel)) (goodIn_app (goodIn_r vdm_isSetOf [2, 3] rfl (by decide +kernel)) (goodIn_app (goodIn_sub iq_odds_X12 gdX12) goodIn_nil)))
set_option maxRecDepth 20000 in
theorem gq_odds_79_m_is : GoodIn vq_odds (wsV RX12 79 RX12 yX12_is vm_is) := (goodIn_app (goodIn_r _ [7, 10, 11, 6] rfl (by decide +kernel)) (goodIn_app (goodIn_r vdm_is [8, 9] rfl (by decide +kernel)) (goodIn_app (goodIn_sub iq_odds_X12 gdX12) goodIn_nil)))
set_option maxRecDepth 20000 in
theorem gq_odds_298_m_isFrom : GoodIn vq_odds (va_wsS RX12 298 yX12_isFrom vm_isFrom) := (goodIn_app (goodIn_r _ [13, 15, 6] rfl (by decide +kernel)) (goodIn_app (goodIn_r vdm_isFrom [14] rfl (by decide +kernel)) goodIn_nil))
set_option maxHeartbeats 4000000 in
set_option maxRecDepth 100000 in
theorem q_odds (l : Launch) (D : va_G) (kc : Nat → ClassId) (sz : Nat) (ma : Nat → Nat) (a0 : Int32) (a1 : Int32) (a2 : Int32) : Met l yX12_odds vq_odds ({ frames := 1, cells := 0, slots := 0, locals := 25 }) (va_Pc [.ref (ma 0), .int a0, .int a1, .int a2] (wPre D kc [(ma 0, .inr (11, [.ref (ma 1), .ref (ma 2), .int 0, .long 0, .long 1, .ref (ma 3), .ref (ma 4), .ref (ma 5), .ref (ma 6), .ref (ma 7), .int 0, .int 0, .int 0, .int 0, .int 0, .int 0, .int (-1), .int (-1), .int 0, .int 0, .int 0, .ref (ma 8), .int 0, .int 0, .int (-1), .int 0, .int 0, .int 0, .ref (ma 9), .int 0, .int 0, .ref (ma 10), .ref (ma 11), .ref (ma 12), .int 0, .int 0])), (ma 1, .inl (kc 0, 2880, .inl at0))] sz)) (va_Qi (fun (r : Int32) (_ : Unit) => r = 0) wAny (va_A [(ma 0, .inr (11, [.ref (ma 1), .ref (ma 2), .int 0, .long 0, .long 1, .ref (ma 3), .ref (ma 4), .ref (ma 5), .ref (ma 6), .ref (ma 7), .int 0, .int 0, .int 0, .int 0, .int 0, .int 0, .int (-1), .int (-1), .int 0, .int 0, .int 0, .ref (ma 8), .int 0, .int 0, .int (-1), .int 0, .int 0, .int 0, .ref (ma 9), .int 0, .int 0, .ref (ma 10), .ref (ma 11), .ref (ma 12), .int 0, .int 0])), (ma 1, .inl (kc 0, 2880, .inl at0))] sz)) 0 0 (va_A [(ma 0, .inr (11, [.ref (ma 1), .ref (ma 2), .int 0, .long 0, .long 1, .ref (ma 3), .ref (ma 4), .ref (ma 5), .ref (ma 6), .ref (ma 7), .int 0, .int 0, .int 0, .int 0, .int 0, .int 0, .int (-1), .int (-1), .int 0, .int 0, .int 0, .ref (ma 8), .int 0, .int 0, .int (-1), .int 0, .int 0, .int 0, .ref (ma 9), .int 0, .int 0, .ref (ma 10), .ref (ma 11), .ref (ma 12), .int 0, .int 0])), (ma 1, .inl (kc 0, 2880, .inl at0))] sz) := by
  refine Met.ofW (cc := cX12_odds) (maxL := 6) (ret := (some .boolean)) (by decide) rfl ?_
  intro p e s m args below meth c s₁ B hml hv
  obtain ⟨rfl, hsz, hP, hE, hD0⟩ := hv
  have hx := B.exec
  have hb := B.bytes
  have hr := B.returns
  have hts := atoms_spec (ws := vq_odds) B.pre
  have hown : s.vm.findClass RX12 = some m.cls := findClass_of_methodNamed B.named
  have hlocks := B.notSynchronized
  subst hsz
  have hD := hD0.self (sz := s.heap.size)
  generalize hAe : va_A [(ma 0, .inr (11, [.ref (ma 1), .ref (ma 2), .int 0, .long 0, .long 1, .ref (ma 3), .ref (ma 4), .ref (ma 5), .ref (ma 6), .ref (ma 7), .int 0, .int 0, .int 0, .int 0, .int 0, .int 0, .int (-1), .int (-1), .int 0, .int 0, .int 0, .ref (ma 8), .int 0, .int 0, .int (-1), .int 0, .int 0, .int 0, .ref (ma 9), .int 0, .int 0, .ref (ma 10), .ref (ma 11), .ref (ma 12), .int 0, .int 0])), (ma 1, .inl (kc 0, 2880, .inl at0))] s.heap.size = A at hD ⊢
  have hA : ∀ q : Nat, s.heap.size ≤ q → A q := fun q h => by rw [← hAe]; exact Or.inr h
  have hS : va_S A s.heap s.heap [] := va_S.rf
  have hK := hE.1
  have hP : va_P D vwCl [(ma 0, .inr (11, [.ref (ma 1), .ref (ma 2), .int 0, .long 0, .long 1, .ref (ma 3), .ref (ma 4), .ref (ma 5), .ref (ma 6), .ref (ma 7), .int 0, .int 0, .int 0, .int 0, .int 0, .int 0, .int (-1), .int (-1), .int 0, .int 0, .int 0, .ref (ma 8), .int 0, .int 0, .int (-1), .int 0, .int 0, .int 0, .ref (ma 9), .int 0, .int 0, .ref (ma 10), .ref (ma 11), .ref (ma 12), .int 0, .int 0])), (ma 1, .inl (kc 0, 2880, .inl at0))] s.heap := hP
  have hl := lv_entry ([.ref (ma 0), .int a0, .int a1, .int a2]) (n := 6) (Nat.le_of_ble_eq_true rfl)
  rw [lg_entry_eq]
  generalize (lg_sl ([.ref (ma 0), .int a0, .int a1, .int a2]) ++ List.replicate (6 - (lg_sl ([.ref (ma 0), .int a0, .int a1, .int a2])).length) Slot.unset).toArray = ls at hl ⊢
  have hl : lv_has ls 6 [(0, .ref (ma 0)), (1, .int a0), (2, .int a1), (3, .int a2)] := hl
  refine lv_aload_n hx hb dX12_odds_0 rfl (lv_at hl 0 rfl) ?_
  refine lv_iload_n hx hb dX12_odds_1 rfl (lv_at hl 1 rfl) ?_
  have hPc := hP.sub (ws' := [(ma 0, .inr (11, [.ref (ma 1), .ref (ma 2), .int 0, .long 0, .long 1, .ref (ma 3), .ref (ma 4), .ref (ma 5), .ref (ma 6), .ref (ma 7), .int 0, .int 0, .int 0, .int 0, .int 0, .int 0, .int (-1), .int (-1), .int 0, .int 0, .int 0, .ref (ma 8), .int 0, .int 0, .int (-1), .int 0, .int 0, .int 0, .ref (ma 9), .int 0, .int 0, .ref (ma 10), .ref (ma 11), .ref (ma 12), .int 0, .int 0])), (ma 1, .inl (kc 0, 2880, .inl at0))]) [0, 1] rfl
  have hDc := hD.sub (ws' := [(ma 0, .inr (11, [.ref (ma 1), .ref (ma 2), .int 0, .long 0, .long 1, .ref (ma 3), .ref (ma 4), .ref (ma 5), .ref (ma 6), .ref (ma 7), .int 0, .int 0, .int 0, .int 0, .int 0, .int 0, .int (-1), .int (-1), .int 0, .int 0, .int 0, .ref (ma 8), .int 0, .int 0, .int (-1), .int 0, .int 0, .int 0, .ref (ma 9), .int 0, .int 0, .ref (ma 10), .ref (ma 11), .ref (ma 12), .int 0, .int 0])), (ma 1, .inl (kc 0, 2880, .inl at0))]) [0, 1] (by decide) rfl
  have hFc := va_free (wc := [(ma 0, .inr (11, [.ref (ma 1), .ref (ma 2), .int 0, .long 0, .long 1, .ref (ma 3), .ref (ma 4), .ref (ma 5), .ref (ma 6), .ref (ma 7), .int 0, .int 0, .int 0, .int 0, .int 0, .int 0, .int (-1), .int (-1), .int 0, .int 0, .int 0, .ref (ma 8), .int 0, .int 0, .int (-1), .int 0, .int 0, .int 0, .ref (ma 9), .int 0, .int 0, .ref (ma 10), .ref (ma 11), .ref (ma 12), .int 0, .int 0])), (ma 1, .inl (kc 0, 2880, .inl at0))]) hD hS hA [0, 1] rfl
  refine va_calli (va_runV (As := [.int a0]) (rest := []) ⟨hx, hb, hml, hown, hts⟩ (m_isSetOf l D kc s.heap.size ma a0) (cwV 1 hts gq_odds_368_m_isSetOf rfl rfl rfl (by decide +kernel) ⟨Nat.le_of_ble_eq_true rfl, Nat.le_of_ble_eq_true rfl⟩) (preV_ok hPc hDc hE (ci := 11) (q0 := 0) rfl rfl) rfl rfl hl.1 rfl (lv_room (Nat.le_of_ble_eq_true rfl)) dX12_odds_2 ⟨Nat.le_of_ble_eq_true rfl, Nat.le_of_ble_eq_true rfl⟩) hS (fun q _ h => hFc q h) hFc (fun r_2 u9 t9 H locs ht hvm hw hB hz1 hk1 hS => ?_)
  obtain ⟨hP1, hD1⟩ := hB
  rw [ht] at hP1
  obtain ⟨hP, hD⟩ := va_join (wr := []) (w1 := [(ma 0, .inr (11, [.ref (ma 1), .ref (ma 2), .int 0, .long 0, .long 1, .ref (ma 3), .ref (ma 4), .ref (ma 5), .ref (ma 6), .ref (ma 7), .int 0, .int 0, .int 0, .int 0, .int 0, .int 0, .int (-1), .int (-1), .int 0, .int 0, .int 0, .ref (ma 8), .int 0, .int 0, .int (-1), .int 0, .int 0, .int 0, .ref (ma 9), .int 0, .int 0, .ref (ma 10), .ref (ma 11), .ref (ma 12), .int 0, .int 0])), (ma 1, .inl (kc 0, 2880, .inl at0))]) hP hD [0, 1] [] rfl rfl (by decide) (by decide) hk1 hFc hP1 hD1
  have hP : va_P D vwCl [(ma 0, .inr (11, [.ref (ma 1), .ref (ma 2), .int 0, .long 0, .long 1, .ref (ma 3), .ref (ma 4), .ref (ma 5), .ref (ma 6), .ref (ma 7), .int 0, .int 0, .int 0, .int 0, .int 0, .int 0, .int (-1), .int (-1), .int 0, .int 0, .int 0, .ref (ma 8), .int 0, .int 0, .int (-1), .int 0, .int 0, .int 0, .ref (ma 9), .int 0, .int 0, .ref (ma 10), .ref (ma 11), .ref (ma 12), .int 0, .int 0])), (ma 1, .inl (kc 0, 2880, .inl at0))] H := hP
  have hD : va_D A [(ma 0, .inr (11, [.ref (ma 1), .ref (ma 2), .int 0, .long 0, .long 1, .ref (ma 3), .ref (ma 4), .ref (ma 5), .ref (ma 6), .ref (ma 7), .int 0, .int 0, .int 0, .int 0, .int 0, .int 0, .int (-1), .int (-1), .int 0, .int 0, .int 0, .ref (ma 8), .int 0, .int 0, .int (-1), .int 0, .int 0, .int 0, .ref (ma 9), .int 0, .int 0, .ref (ma 10), .ref (ma 11), .ref (ma 12), .int 0, .int 0])), (ma 1, .inl (kc 0, 2880, .inl at0))] := hD
  subst hw
  refine lv_if_eq (tgt := 43) hx hb dX12_odds_5 (by decide) (fun c_5 => ?_) (fun c_5 => ?_)
  · refine lv_aload_n hx hb dX12_odds_43 rfl (lv_at hl 0 rfl) ?_
    refine lv_iconst (v := 1) hx hb dX12_odds_44 (by decide) ?_
    have hPc := hP.sub (ws' := [(ma 0, .inr (11, [.ref (ma 1), .ref (ma 2), .int 0, .long 0, .long 1, .ref (ma 3), .ref (ma 4), .ref (ma 5), .ref (ma 6), .ref (ma 7), .int 0, .int 0, .int 0, .int 0, .int 0, .int 0, .int (-1), .int (-1), .int 0, .int 0, .int 0, .ref (ma 8), .int 0, .int 0, .int (-1), .int 0, .int 0, .int 0, .ref (ma 9), .int 0, .int 0, .ref (ma 10), .ref (ma 11), .ref (ma 12), .int 0, .int 0]))]) [0] rfl
    have hDc := hD.sub (ws' := [(ma 0, .inr (11, [.ref (ma 1), .ref (ma 2), .int 0, .long 0, .long 1, .ref (ma 3), .ref (ma 4), .ref (ma 5), .ref (ma 6), .ref (ma 7), .int 0, .int 0, .int 0, .int 0, .int 0, .int 0, .int (-1), .int (-1), .int 0, .int 0, .int 0, .ref (ma 8), .int 0, .int 0, .int (-1), .int 0, .int 0, .int 0, .ref (ma 9), .int 0, .int 0, .ref (ma 10), .ref (ma 11), .ref (ma 12), .int 0, .int 0]))]) [0] (by decide) rfl
    have hFc := va_free (wc := [(ma 0, .inr (11, [.ref (ma 1), .ref (ma 2), .int 0, .long 0, .long 1, .ref (ma 3), .ref (ma 4), .ref (ma 5), .ref (ma 6), .ref (ma 7), .int 0, .int 0, .int 0, .int 0, .int 0, .int 0, .int (-1), .int (-1), .int 0, .int 0, .int 0, .ref (ma 8), .int 0, .int 0, .int (-1), .int 0, .int 0, .int 0, .ref (ma 9), .int 0, .int 0, .ref (ma 10), .ref (ma 11), .ref (ma 12), .int 0, .int 0]))]) hD hS hA [0] rfl
    refine va_calli (va_runV (As := [.int 1]) (rest := []) ⟨hx, hb, hml, hown, hts⟩ (m_is l D kc H.size ma 0 0 1 0 0 0 0 0 0 (-1) (-1) 0 0 0 0 0 (-1) 0 0 0 0 0 0 0 1) (cwV 1 hts gq_odds_79_m_is rfl rfl rfl (by decide +kernel) ⟨Nat.le_of_ble_eq_true rfl, Nat.le_of_ble_eq_true rfl⟩) (preV_ok hPc hDc hE (ci := 11) (q0 := 0) rfl rfl) rfl rfl hl.1 rfl (lv_room (Nat.le_of_ble_eq_true rfl)) dX12_odds_45 ⟨Nat.le_of_ble_eq_true rfl, Nat.le_of_ble_eq_true rfl⟩) hS (fun q _ h => hFc q h) hFc (fun r_45_1 u9 t9 H locs ht hvm hw hB hz1 hk1 hS => ?_)
    obtain ⟨hP1, hD1⟩ := hB
    rw [ht] at hP1
    obtain ⟨hP, hD⟩ := va_join (wr := [(ma 1, .inl (kc 0, 2880, .inl at0))]) (w1 := [(ma 0, .inr (11, [.ref (ma 1), .ref (ma 2), .int 1, .long 0, .long 1, .ref (ma 3), .ref (ma 4), .ref (ma 5), .ref (ma 6), .ref (ma 7), .int 0, .int 0, .int 0, .int 0, .int 0, .int 0, .int (-1), .int (-1), .int 0, .int 0, .int 0, .ref (ma 8), .int 0, .int 0, .int (-1), .int 0, .int 0, .int 0, .ref (ma 9), .int 0, .int 0, .ref (ma 10), .ref (ma 11), .ref (ma 12), .int 0, .int 0]))]) hP hD [0] [1] rfl rfl (by decide) (by decide) hk1 hFc hP1 hD1
    have hP : va_P D vwCl [(ma 1, .inl (kc 0, 2880, .inl at0)), (ma 0, .inr (11, [.ref (ma 1), .ref (ma 2), .int 1, .long 0, .long 1, .ref (ma 3), .ref (ma 4), .ref (ma 5), .ref (ma 6), .ref (ma 7), .int 0, .int 0, .int 0, .int 0, .int 0, .int 0, .int (-1), .int (-1), .int 0, .int 0, .int 0, .ref (ma 8), .int 0, .int 0, .int (-1), .int 0, .int 0, .int 0, .ref (ma 9), .int 0, .int 0, .ref (ma 10), .ref (ma 11), .ref (ma 12), .int 0, .int 0]))] H := hP
    have hD : va_D A [(ma 1, .inl (kc 0, 2880, .inl at0)), (ma 0, .inr (11, [.ref (ma 1), .ref (ma 2), .int 1, .long 0, .long 1, .ref (ma 3), .ref (ma 4), .ref (ma 5), .ref (ma 6), .ref (ma 7), .int 0, .int 0, .int 0, .int 0, .int 0, .int 0, .int (-1), .int (-1), .int 0, .int 0, .int 0, .ref (ma 8), .int 0, .int 0, .int (-1), .int 0, .int 0, .int 0, .ref (ma 9), .int 0, .int 0, .ref (ma 10), .ref (ma 11), .ref (ma 12), .int 0, .int 0]))] := hD
    subst hw
    refine lv_ci (y := 0) (by decide) ?_
    exact W.zret (v := 0) hx hb hr rfl (fun t9 ht hW => ⟨⟨0, (), rfl, rfl, trivial⟩, hS.F ht⟩) hS.2.2 dX12_odds_48
  · refine lv_iload_n hx hb dX12_odds_8 rfl (lv_at hl 2 rfl) ?_
    refine lv_i2l (v := (a1.toInt64)) hx hb dX12_odds_9 rfl ?_
    refine lv_lconst (v := 0) hx hb dX12_odds_10 (by decide) ?_
    refine lv_ldc2 (v := 9999) hx hb hown (hts (.constantLong RX12 377 (9999)) (List.mem_of_getElem? (i := 12) rfl)) dX12_odds_11 ?_
    have hPc := hP.sub (ws' := []) [] rfl
    have hDc := hD.sub (ws' := []) [] (by decide) rfl
    have hFc := va_free (wc := []) hD hS hA [] rfl
    refine va_calli (va_runS (As := [.long (a1.toInt64), .long 0, .long 9999]) (rest := []) ⟨hx, hb, hml, hown, hts⟩ (m_isFrom l D kc H.size (a1.toInt64) 0 9999) (va_cwS 3 hts gq_odds_298_m_isFrom rfl rfl rfl (by decide +kernel) ⟨Nat.le_of_ble_eq_true rfl, Nat.le_of_ble_eq_true rfl⟩) (preS_ok hPc hDc hE) rfl rfl hl.1 rfl (lv_room (Nat.le_of_ble_eq_true rfl)) dX12_odds_14 ⟨Nat.le_of_ble_eq_true rfl, Nat.le_of_ble_eq_true rfl⟩) hS (fun q _ h => hFc q h) hFc (fun r_14_1 u9 t9 H locs ht hvm hw hB hz1 hk1 hS => ?_)
    obtain ⟨hP1, hD1⟩ := hB
    rw [ht] at hP1
    obtain ⟨hP, hD⟩ := va_join (wr := [(ma 0, .inr (11, [.ref (ma 1), .ref (ma 2), .int 0, .long 0, .long 1, .ref (ma 3), .ref (ma 4), .ref (ma 5), .ref (ma 6), .ref (ma 7), .int 0, .int 0, .int 0, .int 0, .int 0, .int 0, .int (-1), .int (-1), .int 0, .int 0, .int 0, .ref (ma 8), .int 0, .int 0, .int (-1), .int 0, .int 0, .int 0, .ref (ma 9), .int 0, .int 0, .ref (ma 10), .ref (ma 11), .ref (ma 12), .int 0, .int 0])), (ma 1, .inl (kc 0, 2880, .inl at0))]) (w1 := []) hP hD [] [0, 1] rfl rfl (by decide) (by decide) hk1 hFc hP1 hD1
    have hP : va_P D vwCl [(ma 0, .inr (11, [.ref (ma 1), .ref (ma 2), .int 0, .long 0, .long 1, .ref (ma 3), .ref (ma 4), .ref (ma 5), .ref (ma 6), .ref (ma 7), .int 0, .int 0, .int 0, .int 0, .int 0, .int 0, .int (-1), .int (-1), .int 0, .int 0, .int 0, .ref (ma 8), .int 0, .int 0, .int (-1), .int 0, .int 0, .int 0, .ref (ma 9), .int 0, .int 0, .ref (ma 10), .ref (ma 11), .ref (ma 12), .int 0, .int 0])), (ma 1, .inl (kc 0, 2880, .inl at0))] H := hP
    have hD : va_D A [(ma 0, .inr (11, [.ref (ma 1), .ref (ma 2), .int 0, .long 0, .long 1, .ref (ma 3), .ref (ma 4), .ref (ma 5), .ref (ma 6), .ref (ma 7), .int 0, .int 0, .int 0, .int 0, .int 0, .int 0, .int (-1), .int (-1), .int 0, .int 0, .int 0, .ref (ma 8), .int 0, .int 0, .int (-1), .int 0, .int 0, .int 0, .ref (ma 9), .int 0, .int 0, .ref (ma 10), .ref (ma 11), .ref (ma 12), .int 0, .int 0])), (ma 1, .inl (kc 0, 2880, .inl at0))] := hD
    subst hw
    refine lv_if_eq (tgt := 43) hx hb dX12_odds_17 (by decide) (fun c_17 => ?_) (fun c_17 => ?_)
    · refine lv_aload_n hx hb dX12_odds_43 rfl (lv_at hl 0 rfl) ?_
      refine lv_iconst (v := 1) hx hb dX12_odds_44 (by decide) ?_
      have hPc := hP.sub (ws' := [(ma 0, .inr (11, [.ref (ma 1), .ref (ma 2), .int 0, .long 0, .long 1, .ref (ma 3), .ref (ma 4), .ref (ma 5), .ref (ma 6), .ref (ma 7), .int 0, .int 0, .int 0, .int 0, .int 0, .int 0, .int (-1), .int (-1), .int 0, .int 0, .int 0, .ref (ma 8), .int 0, .int 0, .int (-1), .int 0, .int 0, .int 0, .ref (ma 9), .int 0, .int 0, .ref (ma 10), .ref (ma 11), .ref (ma 12), .int 0, .int 0]))]) [0] rfl
      have hDc := hD.sub (ws' := [(ma 0, .inr (11, [.ref (ma 1), .ref (ma 2), .int 0, .long 0, .long 1, .ref (ma 3), .ref (ma 4), .ref (ma 5), .ref (ma 6), .ref (ma 7), .int 0, .int 0, .int 0, .int 0, .int 0, .int 0, .int (-1), .int (-1), .int 0, .int 0, .int 0, .ref (ma 8), .int 0, .int 0, .int (-1), .int 0, .int 0, .int 0, .ref (ma 9), .int 0, .int 0, .ref (ma 10), .ref (ma 11), .ref (ma 12), .int 0, .int 0]))]) [0] (by decide) rfl
      have hFc := va_free (wc := [(ma 0, .inr (11, [.ref (ma 1), .ref (ma 2), .int 0, .long 0, .long 1, .ref (ma 3), .ref (ma 4), .ref (ma 5), .ref (ma 6), .ref (ma 7), .int 0, .int 0, .int 0, .int 0, .int 0, .int 0, .int (-1), .int (-1), .int 0, .int 0, .int 0, .ref (ma 8), .int 0, .int 0, .int (-1), .int 0, .int 0, .int 0, .ref (ma 9), .int 0, .int 0, .ref (ma 10), .ref (ma 11), .ref (ma 12), .int 0, .int 0]))]) hD hS hA [0] rfl
      refine va_calli (va_runV (As := [.int 1]) (rest := []) ⟨hx, hb, hml, hown, hts⟩ (m_is l D kc H.size ma 0 0 1 0 0 0 0 0 0 (-1) (-1) 0 0 0 0 0 (-1) 0 0 0 0 0 0 0 1) (cwV 1 hts gq_odds_79_m_is rfl rfl rfl (by decide +kernel) ⟨Nat.le_of_ble_eq_true rfl, Nat.le_of_ble_eq_true rfl⟩) (preV_ok hPc hDc hE (ci := 11) (q0 := 0) rfl rfl) rfl rfl hl.1 rfl (lv_room (Nat.le_of_ble_eq_true rfl)) dX12_odds_45 ⟨Nat.le_of_ble_eq_true rfl, Nat.le_of_ble_eq_true rfl⟩) hS (fun q _ h => hFc q h) hFc (fun r_45_2 u9 t9 H locs ht hvm hw hB hz1 hk1 hS => ?_)
      obtain ⟨hP1, hD1⟩ := hB
      rw [ht] at hP1
      obtain ⟨hP, hD⟩ := va_join (wr := [(ma 1, .inl (kc 0, 2880, .inl at0))]) (w1 := [(ma 0, .inr (11, [.ref (ma 1), .ref (ma 2), .int 1, .long 0, .long 1, .ref (ma 3), .ref (ma 4), .ref (ma 5), .ref (ma 6), .ref (ma 7), .int 0, .int 0, .int 0, .int 0, .int 0, .int 0, .int (-1), .int (-1), .int 0, .int 0, .int 0, .ref (ma 8), .int 0, .int 0, .int (-1), .int 0, .int 0, .int 0, .ref (ma 9), .int 0, .int 0, .ref (ma 10), .ref (ma 11), .ref (ma 12), .int 0, .int 0]))]) hP hD [0] [1] rfl rfl (by decide) (by decide) hk1 hFc hP1 hD1
      have hP : va_P D vwCl [(ma 1, .inl (kc 0, 2880, .inl at0)), (ma 0, .inr (11, [.ref (ma 1), .ref (ma 2), .int 1, .long 0, .long 1, .ref (ma 3), .ref (ma 4), .ref (ma 5), .ref (ma 6), .ref (ma 7), .int 0, .int 0, .int 0, .int 0, .int 0, .int 0, .int (-1), .int (-1), .int 0, .int 0, .int 0, .ref (ma 8), .int 0, .int 0, .int (-1), .int 0, .int 0, .int 0, .ref (ma 9), .int 0, .int 0, .ref (ma 10), .ref (ma 11), .ref (ma 12), .int 0, .int 0]))] H := hP
      have hD : va_D A [(ma 1, .inl (kc 0, 2880, .inl at0)), (ma 0, .inr (11, [.ref (ma 1), .ref (ma 2), .int 1, .long 0, .long 1, .ref (ma 3), .ref (ma 4), .ref (ma 5), .ref (ma 6), .ref (ma 7), .int 0, .int 0, .int 0, .int 0, .int 0, .int 0, .int (-1), .int (-1), .int 0, .int 0, .int 0, .ref (ma 8), .int 0, .int 0, .int (-1), .int 0, .int 0, .int 0, .ref (ma 9), .int 0, .int 0, .ref (ma 10), .ref (ma 11), .ref (ma 12), .int 0, .int 0]))] := hD
      subst hw
      refine lv_ci (y := 0) (by decide) ?_
      exact W.zret (v := 0) hx hb hr rfl (fun t9 ht hW => ⟨⟨0, (), rfl, rfl, trivial⟩, hS.F ht⟩) hS.2.2 dX12_odds_48
    · refine lv_iload_n hx hb dX12_odds_20 rfl (lv_at hl 3 rfl) ?_
      refine lv_i2l (v := (a2.toInt64)) hx hb dX12_odds_21 rfl ?_
      refine lv_lconst (v := 1) hx hb dX12_odds_22 (by decide) ?_
      refine lv_ldc2 (v := 20) hx hb hown (hts (.constantLong RX12 419 (20)) (List.mem_of_getElem? (i := 16) rfl)) dX12_odds_23 ?_
      have hPc := hP.sub (ws' := []) [] rfl
      have hDc := hD.sub (ws' := []) [] (by decide) rfl
      have hFc := va_free (wc := []) hD hS hA [] rfl
      refine va_calli (va_runS (As := [.long (a2.toInt64), .long 1, .long 20]) (rest := []) ⟨hx, hb, hml, hown, hts⟩ (m_isFrom l D kc H.size (a2.toInt64) 1 20) (va_cwS 3 hts gq_odds_298_m_isFrom rfl rfl rfl (by decide +kernel) ⟨Nat.le_of_ble_eq_true rfl, Nat.le_of_ble_eq_true rfl⟩) (preS_ok hPc hDc hE) rfl rfl hl.1 rfl (lv_room (Nat.le_of_ble_eq_true rfl)) dX12_odds_26 ⟨Nat.le_of_ble_eq_true rfl, Nat.le_of_ble_eq_true rfl⟩) hS (fun q _ h => hFc q h) hFc (fun r_26_2 u9 t9 H locs ht hvm hw hB hz1 hk1 hS => ?_)
      obtain ⟨hP1, hD1⟩ := hB
      rw [ht] at hP1
      obtain ⟨hP, hD⟩ := va_join (wr := [(ma 0, .inr (11, [.ref (ma 1), .ref (ma 2), .int 0, .long 0, .long 1, .ref (ma 3), .ref (ma 4), .ref (ma 5), .ref (ma 6), .ref (ma 7), .int 0, .int 0, .int 0, .int 0, .int 0, .int 0, .int (-1), .int (-1), .int 0, .int 0, .int 0, .ref (ma 8), .int 0, .int 0, .int (-1), .int 0, .int 0, .int 0, .ref (ma 9), .int 0, .int 0, .ref (ma 10), .ref (ma 11), .ref (ma 12), .int 0, .int 0])), (ma 1, .inl (kc 0, 2880, .inl at0))]) (w1 := []) hP hD [] [0, 1] rfl rfl (by decide) (by decide) hk1 hFc hP1 hD1
      have hP : va_P D vwCl [(ma 0, .inr (11, [.ref (ma 1), .ref (ma 2), .int 0, .long 0, .long 1, .ref (ma 3), .ref (ma 4), .ref (ma 5), .ref (ma 6), .ref (ma 7), .int 0, .int 0, .int 0, .int 0, .int 0, .int 0, .int (-1), .int (-1), .int 0, .int 0, .int 0, .ref (ma 8), .int 0, .int 0, .int (-1), .int 0, .int 0, .int 0, .ref (ma 9), .int 0, .int 0, .ref (ma 10), .ref (ma 11), .ref (ma 12), .int 0, .int 0])), (ma 1, .inl (kc 0, 2880, .inl at0))] H := hP
      have hD : va_D A [(ma 0, .inr (11, [.ref (ma 1), .ref (ma 2), .int 0, .long 0, .long 1, .ref (ma 3), .ref (ma 4), .ref (ma 5), .ref (ma 6), .ref (ma 7), .int 0, .int 0, .int 0, .int 0, .int 0, .int 0, .int (-1), .int (-1), .int 0, .int 0, .int 0, .ref (ma 8), .int 0, .int 0, .int (-1), .int 0, .int 0, .int 0, .ref (ma 9), .int 0, .int 0, .ref (ma 10), .ref (ma 11), .ref (ma 12), .int 0, .int 0])), (ma 1, .inl (kc 0, 2880, .inl at0))] := hD
      subst hw
      refine lv_if_eq (tgt := 43) hx hb dX12_odds_29 (by decide) (fun c_29 => ?_) (fun c_29 => ?_)
      · refine lv_aload_n hx hb dX12_odds_43 rfl (lv_at hl 0 rfl) ?_
        refine lv_iconst (v := 1) hx hb dX12_odds_44 (by decide) ?_
        have hPc := hP.sub (ws' := [(ma 0, .inr (11, [.ref (ma 1), .ref (ma 2), .int 0, .long 0, .long 1, .ref (ma 3), .ref (ma 4), .ref (ma 5), .ref (ma 6), .ref (ma 7), .int 0, .int 0, .int 0, .int 0, .int 0, .int 0, .int (-1), .int (-1), .int 0, .int 0, .int 0, .ref (ma 8), .int 0, .int 0, .int (-1), .int 0, .int 0, .int 0, .ref (ma 9), .int 0, .int 0, .ref (ma 10), .ref (ma 11), .ref (ma 12), .int 0, .int 0]))]) [0] rfl
        have hDc := hD.sub (ws' := [(ma 0, .inr (11, [.ref (ma 1), .ref (ma 2), .int 0, .long 0, .long 1, .ref (ma 3), .ref (ma 4), .ref (ma 5), .ref (ma 6), .ref (ma 7), .int 0, .int 0, .int 0, .int 0, .int 0, .int 0, .int (-1), .int (-1), .int 0, .int 0, .int 0, .ref (ma 8), .int 0, .int 0, .int (-1), .int 0, .int 0, .int 0, .ref (ma 9), .int 0, .int 0, .ref (ma 10), .ref (ma 11), .ref (ma 12), .int 0, .int 0]))]) [0] (by decide) rfl
        have hFc := va_free (wc := [(ma 0, .inr (11, [.ref (ma 1), .ref (ma 2), .int 0, .long 0, .long 1, .ref (ma 3), .ref (ma 4), .ref (ma 5), .ref (ma 6), .ref (ma 7), .int 0, .int 0, .int 0, .int 0, .int 0, .int 0, .int (-1), .int (-1), .int 0, .int 0, .int 0, .ref (ma 8), .int 0, .int 0, .int (-1), .int 0, .int 0, .int 0, .ref (ma 9), .int 0, .int 0, .ref (ma 10), .ref (ma 11), .ref (ma 12), .int 0, .int 0]))]) hD hS hA [0] rfl
        refine va_calli (va_runV (As := [.int 1]) (rest := []) ⟨hx, hb, hml, hown, hts⟩ (m_is l D kc H.size ma 0 0 1 0 0 0 0 0 0 (-1) (-1) 0 0 0 0 0 (-1) 0 0 0 0 0 0 0 1) (cwV 1 hts gq_odds_79_m_is rfl rfl rfl (by decide +kernel) ⟨Nat.le_of_ble_eq_true rfl, Nat.le_of_ble_eq_true rfl⟩) (preV_ok hPc hDc hE (ci := 11) (q0 := 0) rfl rfl) rfl rfl hl.1 rfl (lv_room (Nat.le_of_ble_eq_true rfl)) dX12_odds_45 ⟨Nat.le_of_ble_eq_true rfl, Nat.le_of_ble_eq_true rfl⟩) hS (fun q _ h => hFc q h) hFc (fun r_45_3 u9 t9 H locs ht hvm hw hB hz1 hk1 hS => ?_)
        obtain ⟨hP1, hD1⟩ := hB
        rw [ht] at hP1
        obtain ⟨hP, hD⟩ := va_join (wr := [(ma 1, .inl (kc 0, 2880, .inl at0))]) (w1 := [(ma 0, .inr (11, [.ref (ma 1), .ref (ma 2), .int 1, .long 0, .long 1, .ref (ma 3), .ref (ma 4), .ref (ma 5), .ref (ma 6), .ref (ma 7), .int 0, .int 0, .int 0, .int 0, .int 0, .int 0, .int (-1), .int (-1), .int 0, .int 0, .int 0, .ref (ma 8), .int 0, .int 0, .int (-1), .int 0, .int 0, .int 0, .ref (ma 9), .int 0, .int 0, .ref (ma 10), .ref (ma 11), .ref (ma 12), .int 0, .int 0]))]) hP hD [0] [1] rfl rfl (by decide) (by decide) hk1 hFc hP1 hD1
        have hP : va_P D vwCl [(ma 1, .inl (kc 0, 2880, .inl at0)), (ma 0, .inr (11, [.ref (ma 1), .ref (ma 2), .int 1, .long 0, .long 1, .ref (ma 3), .ref (ma 4), .ref (ma 5), .ref (ma 6), .ref (ma 7), .int 0, .int 0, .int 0, .int 0, .int 0, .int 0, .int (-1), .int (-1), .int 0, .int 0, .int 0, .ref (ma 8), .int 0, .int 0, .int (-1), .int 0, .int 0, .int 0, .ref (ma 9), .int 0, .int 0, .ref (ma 10), .ref (ma 11), .ref (ma 12), .int 0, .int 0]))] H := hP
        have hD : va_D A [(ma 1, .inl (kc 0, 2880, .inl at0)), (ma 0, .inr (11, [.ref (ma 1), .ref (ma 2), .int 1, .long 0, .long 1, .ref (ma 3), .ref (ma 4), .ref (ma 5), .ref (ma 6), .ref (ma 7), .int 0, .int 0, .int 0, .int 0, .int 0, .int 0, .int (-1), .int (-1), .int 0, .int 0, .int 0, .ref (ma 8), .int 0, .int 0, .int (-1), .int 0, .int 0, .int 0, .ref (ma 9), .int 0, .int 0, .ref (ma 10), .ref (ma 11), .ref (ma 12), .int 0, .int 0]))] := hD
        subst hw
        refine lv_ci (y := 0) (by decide) ?_
        exact W.zret (v := 0) hx hb hr rfl (fun t9 ht hW => ⟨⟨0, (), rfl, rfl, trivial⟩, hS.F ht⟩) hS.2.2 dX12_odds_48
      · refine lv_iload_n hx hb dX12_odds_32 rfl (lv_at hl 2 rfl) ?_
        refine lv_iload_n hx hb dX12_odds_33 rfl (lv_at hl 3 rfl) ?_
        refine lv_iadd hx hb dX12_odds_34 ?_
        refine lv_iconst (v := 1) hx hb dX12_odds_35 (by decide) ?_
        refine lv_isub hx hb dX12_odds_36 ?_
        refine lv_sipush (v := 9999) hx hb dX12_odds_37 (by decide) ?_
        refine lv_icmp_le (tgt := 49) hx hb dX12_odds_40 (by decide) (fun c_40 => ?_) (fun c_40 => ?_)
        · refine lv_aload_n hx hb dX12_odds_49 rfl (lv_at hl 0 rfl) ?_
          refine va_get (D := D) (ci := 11) (v := .ref (ma 1)) (C := RX12) (T := TX12) (N := 36) hx hb hts iq_odds_X12 hown hK hP 0 rfl rfl 0 (by decide) (hts (.fieldLink RX12 7 "SaltStreetModel" "at" "[I") (List.mem_of_getElem? (i := 3) rfl)) (fun _ h9 => h9) rfl dX12_odds_50 ?_
          refine lv_bipush (v := 11) hx hb dX12_odds_53 (by decide) ?_
          refine va_iald hx hb hK hP 1 0 (f := at0) rfl rfl (by unfold vp_in; decide) dX12_odds_55 ?_
          refine lv_ci (y := (-1)) (by decide) ?_
          refine lv_iconst (v := (-1)) hx hb dX12_odds_56 (by decide) ?_
          refine lv_icmp_ne (tgt := 67) hx hb dX12_odds_57 (by decide) (fun h => absurd (by decide) h) (fun _ => ?_)
          refine lv_aload_n hx hb dX12_odds_60 rfl (lv_at hl 0 rfl) ?_
          refine lv_bipush (v := 6) hx hb dX12_odds_61 (by decide) ?_
          have hPc := hP.sub (ws' := [(ma 0, .inr (11, [.ref (ma 1), .ref (ma 2), .int 0, .long 0, .long 1, .ref (ma 3), .ref (ma 4), .ref (ma 5), .ref (ma 6), .ref (ma 7), .int 0, .int 0, .int 0, .int 0, .int 0, .int 0, .int (-1), .int (-1), .int 0, .int 0, .int 0, .ref (ma 8), .int 0, .int 0, .int (-1), .int 0, .int 0, .int 0, .ref (ma 9), .int 0, .int 0, .ref (ma 10), .ref (ma 11), .ref (ma 12), .int 0, .int 0]))]) [0] rfl
          have hDc := hD.sub (ws' := [(ma 0, .inr (11, [.ref (ma 1), .ref (ma 2), .int 0, .long 0, .long 1, .ref (ma 3), .ref (ma 4), .ref (ma 5), .ref (ma 6), .ref (ma 7), .int 0, .int 0, .int 0, .int 0, .int 0, .int 0, .int (-1), .int (-1), .int 0, .int 0, .int 0, .ref (ma 8), .int 0, .int 0, .int (-1), .int 0, .int 0, .int 0, .ref (ma 9), .int 0, .int 0, .ref (ma 10), .ref (ma 11), .ref (ma 12), .int 0, .int 0]))]) [0] (by decide) rfl
          have hFc := va_free (wc := [(ma 0, .inr (11, [.ref (ma 1), .ref (ma 2), .int 0, .long 0, .long 1, .ref (ma 3), .ref (ma 4), .ref (ma 5), .ref (ma 6), .ref (ma 7), .int 0, .int 0, .int 0, .int 0, .int 0, .int 0, .int (-1), .int (-1), .int 0, .int 0, .int 0, .ref (ma 8), .int 0, .int 0, .int (-1), .int 0, .int 0, .int 0, .ref (ma 9), .int 0, .int 0, .ref (ma 10), .ref (ma 11), .ref (ma 12), .int 0, .int 0]))]) hD hS hA [0] rfl
          refine va_calli (va_runV (As := [.int 6]) (rest := []) ⟨hx, hb, hml, hown, hts⟩ (m_is l D kc H.size ma 0 0 1 0 0 0 0 0 0 (-1) (-1) 0 0 0 0 0 (-1) 0 0 0 0 0 0 0 6) (cwV 1 hts gq_odds_79_m_is rfl rfl rfl (by decide +kernel) ⟨Nat.le_of_ble_eq_true rfl, Nat.le_of_ble_eq_true rfl⟩) (preV_ok hPc hDc hE (ci := 11) (q0 := 0) rfl rfl) rfl rfl hl.1 rfl (lv_room (Nat.le_of_ble_eq_true rfl)) dX12_odds_63 ⟨Nat.le_of_ble_eq_true rfl, Nat.le_of_ble_eq_true rfl⟩) hS (fun q _ h => hFc q h) hFc (fun r_63_4 u9 t9 H locs ht hvm hw hB hz1 hk1 hS => ?_)
          obtain ⟨hP1, hD1⟩ := hB
          rw [ht] at hP1
          obtain ⟨hP, hD⟩ := va_join (wr := [(ma 1, .inl (kc 0, 2880, .inl at0))]) (w1 := [(ma 0, .inr (11, [.ref (ma 1), .ref (ma 2), .int 6, .long 0, .long 1, .ref (ma 3), .ref (ma 4), .ref (ma 5), .ref (ma 6), .ref (ma 7), .int 0, .int 0, .int 0, .int 0, .int 0, .int 0, .int (-1), .int (-1), .int 0, .int 0, .int 0, .ref (ma 8), .int 0, .int 0, .int (-1), .int 0, .int 0, .int 0, .ref (ma 9), .int 0, .int 0, .ref (ma 10), .ref (ma 11), .ref (ma 12), .int 0, .int 0]))]) hP hD [0] [1] rfl rfl (by decide) (by decide) hk1 hFc hP1 hD1
          have hP : va_P D vwCl [(ma 1, .inl (kc 0, 2880, .inl at0)), (ma 0, .inr (11, [.ref (ma 1), .ref (ma 2), .int 6, .long 0, .long 1, .ref (ma 3), .ref (ma 4), .ref (ma 5), .ref (ma 6), .ref (ma 7), .int 0, .int 0, .int 0, .int 0, .int 0, .int 0, .int (-1), .int (-1), .int 0, .int 0, .int 0, .ref (ma 8), .int 0, .int 0, .int (-1), .int 0, .int 0, .int 0, .ref (ma 9), .int 0, .int 0, .ref (ma 10), .ref (ma 11), .ref (ma 12), .int 0, .int 0]))] H := hP
          have hD : va_D A [(ma 1, .inl (kc 0, 2880, .inl at0)), (ma 0, .inr (11, [.ref (ma 1), .ref (ma 2), .int 6, .long 0, .long 1, .ref (ma 3), .ref (ma 4), .ref (ma 5), .ref (ma 6), .ref (ma 7), .int 0, .int 0, .int 0, .int 0, .int 0, .int 0, .int (-1), .int (-1), .int 0, .int 0, .int 0, .ref (ma 8), .int 0, .int 0, .int (-1), .int 0, .int 0, .int 0, .ref (ma 9), .int 0, .int 0, .ref (ma 10), .ref (ma 11), .ref (ma 12), .int 0, .int 0]))] := hD
          subst hw
          refine lv_ci (y := 0) (by decide) ?_
          exact W.zret (v := 0) hx hb hr rfl (fun t9 ht hW => ⟨⟨0, (), rfl, rfl, trivial⟩, hS.F ht⟩) hS.2.2 dX12_odds_66
        · refine lv_aload_n hx hb dX12_odds_43 rfl (lv_at hl 0 rfl) ?_
          refine lv_iconst (v := 1) hx hb dX12_odds_44 (by decide) ?_
          have hPc := hP.sub (ws' := [(ma 0, .inr (11, [.ref (ma 1), .ref (ma 2), .int 0, .long 0, .long 1, .ref (ma 3), .ref (ma 4), .ref (ma 5), .ref (ma 6), .ref (ma 7), .int 0, .int 0, .int 0, .int 0, .int 0, .int 0, .int (-1), .int (-1), .int 0, .int 0, .int 0, .ref (ma 8), .int 0, .int 0, .int (-1), .int 0, .int 0, .int 0, .ref (ma 9), .int 0, .int 0, .ref (ma 10), .ref (ma 11), .ref (ma 12), .int 0, .int 0]))]) [0] rfl
          have hDc := hD.sub (ws' := [(ma 0, .inr (11, [.ref (ma 1), .ref (ma 2), .int 0, .long 0, .long 1, .ref (ma 3), .ref (ma 4), .ref (ma 5), .ref (ma 6), .ref (ma 7), .int 0, .int 0, .int 0, .int 0, .int 0, .int 0, .int (-1), .int (-1), .int 0, .int 0, .int 0, .ref (ma 8), .int 0, .int 0, .int (-1), .int 0, .int 0, .int 0, .ref (ma 9), .int 0, .int 0, .ref (ma 10), .ref (ma 11), .ref (ma 12), .int 0, .int 0]))]) [0] (by decide) rfl
          have hFc := va_free (wc := [(ma 0, .inr (11, [.ref (ma 1), .ref (ma 2), .int 0, .long 0, .long 1, .ref (ma 3), .ref (ma 4), .ref (ma 5), .ref (ma 6), .ref (ma 7), .int 0, .int 0, .int 0, .int 0, .int 0, .int 0, .int (-1), .int (-1), .int 0, .int 0, .int 0, .ref (ma 8), .int 0, .int 0, .int (-1), .int 0, .int 0, .int 0, .ref (ma 9), .int 0, .int 0, .ref (ma 10), .ref (ma 11), .ref (ma 12), .int 0, .int 0]))]) hD hS hA [0] rfl
          refine va_calli (va_runV (As := [.int 1]) (rest := []) ⟨hx, hb, hml, hown, hts⟩ (m_is l D kc H.size ma 0 0 1 0 0 0 0 0 0 (-1) (-1) 0 0 0 0 0 (-1) 0 0 0 0 0 0 0 1) (cwV 1 hts gq_odds_79_m_is rfl rfl rfl (by decide +kernel) ⟨Nat.le_of_ble_eq_true rfl, Nat.le_of_ble_eq_true rfl⟩) (preV_ok hPc hDc hE (ci := 11) (q0 := 0) rfl rfl) rfl rfl hl.1 rfl (lv_room (Nat.le_of_ble_eq_true rfl)) dX12_odds_45 ⟨Nat.le_of_ble_eq_true rfl, Nat.le_of_ble_eq_true rfl⟩) hS (fun q _ h => hFc q h) hFc (fun r_45_4 u9 t9 H locs ht hvm hw hB hz1 hk1 hS => ?_)
          obtain ⟨hP1, hD1⟩ := hB
          rw [ht] at hP1
          obtain ⟨hP, hD⟩ := va_join (wr := [(ma 1, .inl (kc 0, 2880, .inl at0))]) (w1 := [(ma 0, .inr (11, [.ref (ma 1), .ref (ma 2), .int 1, .long 0, .long 1, .ref (ma 3), .ref (ma 4), .ref (ma 5), .ref (ma 6), .ref (ma 7), .int 0, .int 0, .int 0, .int 0, .int 0, .int 0, .int (-1), .int (-1), .int 0, .int 0, .int 0, .ref (ma 8), .int 0, .int 0, .int (-1), .int 0, .int 0, .int 0, .ref (ma 9), .int 0, .int 0, .ref (ma 10), .ref (ma 11), .ref (ma 12), .int 0, .int 0]))]) hP hD [0] [1] rfl rfl (by decide) (by decide) hk1 hFc hP1 hD1
          have hP : va_P D vwCl [(ma 1, .inl (kc 0, 2880, .inl at0)), (ma 0, .inr (11, [.ref (ma 1), .ref (ma 2), .int 1, .long 0, .long 1, .ref (ma 3), .ref (ma 4), .ref (ma 5), .ref (ma 6), .ref (ma 7), .int 0, .int 0, .int 0, .int 0, .int 0, .int 0, .int (-1), .int (-1), .int 0, .int 0, .int 0, .ref (ma 8), .int 0, .int 0, .int (-1), .int 0, .int 0, .int 0, .ref (ma 9), .int 0, .int 0, .ref (ma 10), .ref (ma 11), .ref (ma 12), .int 0, .int 0]))] H := hP
          have hD : va_D A [(ma 1, .inl (kc 0, 2880, .inl at0)), (ma 0, .inr (11, [.ref (ma 1), .ref (ma 2), .int 1, .long 0, .long 1, .ref (ma 3), .ref (ma 4), .ref (ma 5), .ref (ma 6), .ref (ma 7), .int 0, .int 0, .int 0, .int 0, .int 0, .int 0, .int (-1), .int (-1), .int 0, .int 0, .int 0, .ref (ma 8), .int 0, .int 0, .int (-1), .int 0, .int 0, .int 0, .ref (ma 9), .int 0, .int 0, .ref (ma 10), .ref (ma 11), .ref (ma 12), .int 0, .int 0]))] := hD
          subst hw
          refine lv_ci (y := 0) (by decide) ?_
          exact W.zret (v := 0) hx hb hr rfl (fun t9 ht hW => ⟨⟨0, (), rfl, rfl, trivial⟩, hS.F ht⟩) hS.2.2 dX12_odds_48
