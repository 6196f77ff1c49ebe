theorem dX12_costOf_0 : decode cX12_costOf 0 = .ok (.iload_n 1, 1) := by decide +kernel
theorem dX12_costOf_1 : decode cX12_costOf 1 = .ok (.istore_n 2, 1) := by decide +kernel
theorem dX12_costOf_2 : decode cX12_costOf 2 = .ok (.iconst 0, 1) := by decide +kernel
theorem dX12_costOf_3 : decode cX12_costOf 3 = .ok (.istore_n 3, 1) := by decide +kernel
theorem dX12_costOf_4 : decode cX12_costOf 4 = .ok (.aload_n 0, 1) := by decide +kernel
theorem dX12_costOf_5 : decode cX12_costOf 5 = .ok (.iconst 0, 1) := by decide +kernel
theorem dX12_costOf_6 : decode cX12_costOf 6 = .ok (.putfield 374, 3) := by decide +kernel
theorem dX12_costOf_9 : decode cX12_costOf 9 = .ok (.iconst 1, 1) := by decide +kernel
theorem dX12_costOf_10 : decode cX12_costOf 10 = .ok (.istore 4, 2) := by decide +kernel
theorem dX12_costOf_12 : decode cX12_costOf 12 = .ok (.iload 4, 2) := by decide +kernel
theorem dX12_costOf_14 : decode cX12_costOf 14 = .ok (.bipush 100, 2) := by decide +kernel
theorem dX12_costOf_16 : decode cX12_costOf 16 = .ok (.if_icmp .ge 97, 3) := by decide +kernel
theorem dX12_costOf_19 : decode cX12_costOf 19 = .ok (.iload_n 2, 1) := by decide +kernel
theorem dX12_costOf_20 : decode cX12_costOf 20 = .ok (.ifCond .le 93, 3) := by decide +kernel
theorem dX12_costOf_113 : decode cX12_costOf 113 = .ok (.iload_n 2, 1) := by decide +kernel
theorem dX12_costOf_114 : decode cX12_costOf 114 = .ok (.ifCond .le 7, 3) := by decide +kernel
theorem dX12_costOf_121 : decode cX12_costOf 121 = .ok (.iload_n 3, 1) := by decide +kernel
theorem dX12_costOf_122 : decode cX12_costOf 122 = .ok (.ireturn, 1) := by decide +kernel
theorem dX12_costOf_23 : decode cX12_costOf 23 = .ok (.iconst 0, 1) := by decide +kernel
theorem dX12_costOf_24 : decode cX12_costOf 24 = .ok (.istore 5, 2) := by decide +kernel
theorem dX12_costOf_26 : decode cX12_costOf 26 = .ok (.iload 5, 2) := by decide +kernel
theorem dX12_costOf_28 : decode cX12_costOf 28 = .ok (.aload_n 0, 1) := by decide +kernel
theorem dX12_costOf_29 : decode cX12_costOf 29 = .ok (.getfield 7, 3) := by decide +kernel
theorem dX12_costOf_32 : decode cX12_costOf 32 = .ok (.iconst 3, 1) := by decide +kernel
theorem dX12_costOf_33 : decode cX12_costOf 33 = .ok (.iaload, 1) := by decide +kernel
theorem dX12_costOf_34 : decode cX12_costOf 34 = .ok (.if_icmp .ge 73, 3) := by decide +kernel
theorem dX12_costOf_107 : decode cX12_costOf 107 = .ok (.iinc 4 1, 3) := by decide +kernel
theorem dX12_costOf_110 : decode cX12_costOf 110 = .ok (.goto (-98), 3) := by decide +kernel
theorem dX12_costOf_117 : decode cX12_costOf 117 = .ok (.iconst (-1), 1) := by decide +kernel
theorem dX12_costOf_118 : decode cX12_costOf 118 = .ok (.goto 4, 3) := by decide +kernel
def vdm_costOf : List Cond := [.code yX12_costOf cX12_costOf 8 (some .int), .fieldLink RX12 374 "SaltStreetModel" "lastPrice" "I", .fieldLink RX12 7 "SaltStreetModel" "at" "[I"]
def vm_costOf : List Cond := vdm_costOf ++ (wsX120 ++ ([] : List Cond))
theorem im_costOf_X12 : ∀ w ∈ wsX120, w ∈ vm_costOf := fun _ h => List.mem_append_right _ (List.mem_append_left _ h)
set_option maxHeartbeats 4000000 in
set_option maxRecDepth 100000 in
theorem lp_cost_5 {p : Program} {l : Launch} {e : Env} {R : Room} {s : State} {m : MethodId} {args : Array Value} {below : List Frame} {meth : Method} {c : Code} {cells slots : Nat} {Q : State → Prop} {A : Nat → Prop} {D : va_G} {kc : Nat → ClassId} (ma : Nat → Nat) (q : Int32) (hx : p.tables.exec = Jvm.exec) (hb : c.code = cX12_costOf) (hml : c.maxLocals = 8) (hown : s.vm.findClass RX12 = some m.cls) (hts : ∀ w ∈ vm_costOf, w.before args s = true) (hE : EK D kc s) (hq : ¬ q ≤ 0) (kk : ∀ (H : Heap) (locs : List Loc) (ls : Array Slot), True → va_P D vwCl [(ma 0, .inr (11, [.ref (ma 1), .ref (ma 2), .int 0, .long 0, .long 1, .ref (ma 3), .ref (ma 4), .ref (ma 5), .ref (ma 6), .ref (ma 7), .int 0, .int 0, .int 0, .int 0, .int 0, .int 0, .int (-1), .int (-1), .int 0, .int 0, .int 0, .ref (ma 8), .int 0, .int 0, .int (-1), .int 0, .int 0, .int 0, .ref (ma 9), .int 0, .int 0, .ref (ma 10), .ref (ma 11), .ref (ma 12), .int 0, .int 0])), (ma 1, .inl (kc 0, 2880, .inl at0))] H → va_D A [(ma 0, .inr (11, [.ref (ma 1), .ref (ma 2), .int 0, .long 0, .long 1, .ref (ma 3), .ref (ma 4), .ref (ma 5), .ref (ma 6), .ref (ma 7), .int 0, .int 0, .int 0, .int 0, .int 0, .int 0, .int (-1), .int (-1), .int 0, .int 0, .int 0, .ref (ma 8), .int 0, .int 0, .int (-1), .int 0, .int 0, .int 0, .ref (ma 9), .int 0, .int 0, .ref (ma 10), .ref (ma 11), .ref (ma 12), .int 0, .int 0])), (ma 1, .inl (kc 0, 2880, .inl at0))] → va_S A s.heap H locs → lv_has ls 8 [(4, .int (nI 100)), (3, .int 0), (2, .int q), (0, .ref (ma 0)), (1, .int q)] → W p l e R s m args below meth c H locs cells slots Q (F0 m 113 ls [])) : ∀ (n9 i9 : Nat), i9 ≤ 100 → 100 < i9 + n9 → ∀ (H : Heap) (locs : List Loc) (ls : Array Slot), True → va_P D vwCl [(ma 0, .inr (11, [.ref (ma 1), .ref (ma 2), .int 0, .long 0, .long 1, .ref (ma 3), .ref (ma 4), .ref (ma 5), .ref (ma 6), .ref (ma 7), .int 0, .int 0, .int 0, .int 0, .int 0, .int 0, .int (-1), .int (-1), .int 0, .int 0, .int 0, .ref (ma 8), .int 0, .int 0, .int (-1), .int 0, .int 0, .int 0, .ref (ma 9), .int 0, .int 0, .ref (ma 10), .ref (ma 11), .ref (ma 12), .int 0, .int 0])), (ma 1, .inl (kc 0, 2880, .inl at0))] H → va_D A [(ma 0, .inr (11, [.ref (ma 1), .ref (ma 2), .int 0, .long 0, .long 1, .ref (ma 3), .ref (ma 4), .ref (ma 5), .ref (ma 6), .ref (ma 7), .int 0, .int 0, .int 0, .int 0, .int 0, .int 0, .int (-1), .int (-1), .int 0, .int 0, .int 0, .ref (ma 8), .int 0, .int 0, .int (-1), .int 0, .int 0, .int 0, .ref (ma 9), .int 0, .int 0, .ref (ma 10), .ref (ma 11), .ref (ma 12), .int 0, .int 0])), (ma 1, .inl (kc 0, 2880, .inl at0))] → va_S A s.heap H locs → lv_has ls 8 [(4, .int (nI i9)), (3, .int 0), (2, .int q), (0, .ref (ma 0)), (1, .int q)] → W p l e R s m args below meth c H locs cells slots Q (F0 m 12 ls []) := by
  have hK := hE.1
  intro n9
  induction n9 with
  | zero => intro i9 h1 h2; exact absurd h2 (by omega)
  | succ n9 ih =>
    intro i9 h1 h2 H locs ls hI hP hD hS hl
    rcases Nat.lt_or_ge i9 100 with hlt | hge
    · refine lv_iload hx hb dX12_costOf_12 (lv_at hl 0 rfl) ?_
      refine lv_bipush (v := 100) hx hb dX12_costOf_14 (by decide) ?_
      refine lv_icmp_ge (tgt := 113) hx hb dX12_costOf_16 (by decide) (fun h => absurd h (nI_ge hlt (by decide))) (fun _ => ?_)
      refine lv_iload_n hx hb dX12_costOf_19 rfl (lv_at hl 2 rfl) ?_
      refine lv_if_le (tgt := 113) hx hb dX12_costOf_20 (by decide) (fun h => absurd h hq) (fun _ => ?_)
      refine lv_iconst (v := 0) hx hb dX12_costOf_23 (by decide) ?_
      refine lv_istore (lv' := [(5, .int 0), (4, .int (nI i9)), (3, .int 0), (2, .int q), (0, .ref (ma 0)), (1, .int q)]) hx hb dX12_costOf_24 hl (by decide) rfl (fun ls hl => ?_)
      refine lv_iload hx hb dX12_costOf_26 (lv_at hl 0 rfl) ?_
      refine lv_aload_n hx hb dX12_costOf_28 rfl (lv_at hl 4 rfl) ?_
      refine va_get (D := D) (ci := 11) (v := .ref (ma 1)) (C := RX12) (T := TX12) (N := 36) hx hb hts im_costOf_X12 hown hK hP 0 rfl rfl 0 (by decide) (hts (.fieldLink RX12 7 "SaltStreetModel" "at" "[I") (List.mem_of_getElem? (i := 2) rfl)) (fun _ h9 => h9) rfl dX12_costOf_29 ?_
      refine lv_iconst (v := 3) hx hb dX12_costOf_32 (by decide) ?_
      refine va_iald hx hb hK hP 1 0 (f := at0) rfl rfl (by unfold vp_in; decide) dX12_costOf_33 ?_
      refine lv_ci (y := 0) (by decide) ?_
      refine lv_icmp_ge (tgt := 107) hx hb dX12_costOf_34 (by decide) (fun _ => ?_) (fun h => absurd (by decide) h)
      refine lv_iinc (v := (nI (i9 + 1))) (lv' := [(4, .int (nI (i9 + 1))), (5, .int 0), (3, .int 0), (2, .int q), (0, .ref (ma 0)), (1, .int q)]) hx hb dX12_costOf_107 hl (k := 1) rfl (nI_1 _) (by decide) rfl (fun ls hl => ?_)
      refine lv_goto (tgt := 12) hx hb dX12_costOf_110 (by decide) ?_
      exact ih (i9 + 1) (by omega) (by omega) H locs ls (trivial) hP hD hS (lv_sub hl [0, 2, 3, 4, 5] rfl)
    · obtain rfl : i9 = 100 := by omega
      refine lv_iload hx hb dX12_costOf_12 (lv_at hl 0 rfl) ?_
      refine lv_bipush (v := 100) hx hb dX12_costOf_14 (by decide) ?_
      refine lv_icmp_ge (tgt := 113) hx hb dX12_costOf_16 (by decide) (fun _ => ?_) (fun h => absurd (Int32.le_refl _) h)
      exact kk H locs ls hI hP hD hS (lv_sub hl [0, 1, 2, 3, 4] rfl)
set_option maxHeartbeats 4000000 in
set_option maxRecDepth 100000 in
theorem m_costOf (l : Launch) (D : va_G) (kc : Nat → ClassId) (sz : Nat) (ma : Nat → Nat) (q : Int32) : Met l yX12_costOf vm_costOf ({ frames := 0, cells := 0, slots := 0, locals := 0 }) (va_Pc [.ref (ma 0), .int q] (wPre D kc [(ma 0, .inr (11, [.ref (ma 1), .ref (ma 2), .int 0, .long 0, .long 1, .ref (ma 3), .ref (ma 4), .ref (ma 5), .ref (ma 6), .ref (ma 7), .int 0, .int 0, .int 0, .int 0, .int 0, .int 0, .int (-1), .int (-1), .int 0, .int 0, .int 0, .ref (ma 8), .int 0, .int 0, .int (-1), .int 0, .int 0, .int 0, .ref (ma 9), .int 0, .int 0, .ref (ma 10), .ref (ma 11), .ref (ma 12), .int 0, .int 0])), (ma 1, .inl (kc 0, 2880, .inl at0))] sz)) (va_Qi (fun (r : Int32) (_ : Unit) => r = (sCo q)) (wPost D [(ma 0, .inr (11, [.ref (ma 1), .ref (ma 2), .int 0, .long 0, .long 1, .ref (ma 3), .ref (ma 4), .ref (ma 5), .ref (ma 6), .ref (ma 7), .int 0, .int 0, .int 0, .int 0, .int 0, .int 0, .int (-1), .int (-1), .int 0, .int 0, .int 0, .ref (ma 8), .int 0, .int 0, .int (-1), .int 0, .int 0, .int 0, .ref (ma 9), .int 0, .int 0, .ref (ma 10), .ref (ma 11), .ref (ma 12), .int 0, .int 0])), (ma 1, .inl (kc 0, 2880, .inl at0))] (va_A [(ma 0, .inr (11, [.ref (ma 1), .ref (ma 2), .int 0, .long 0, .long 1, .ref (ma 3), .ref (ma 4), .ref (ma 5), .ref (ma 6), .ref (ma 7), .int 0, .int 0, .int 0, .int 0, .int 0, .int 0, .int (-1), .int (-1), .int 0, .int 0, .int 0, .ref (ma 8), .int 0, .int 0, .int (-1), .int 0, .int 0, .int 0, .ref (ma 9), .int 0, .int 0, .ref (ma 10), .ref (ma 11), .ref (ma 12), .int 0, .int 0])), (ma 1, .inl (kc 0, 2880, .inl at0))] sz)) (va_A [(ma 0, .inr (11, [.ref (ma 1), .ref (ma 2), .int 0, .long 0, .long 1, .ref (ma 3), .ref (ma 4), .ref (ma 5), .ref (ma 6), .ref (ma 7), .int 0, .int 0, .int 0, .int 0, .int 0, .int 0, .int (-1), .int (-1), .int 0, .int 0, .int 0, .ref (ma 8), .int 0, .int 0, .int (-1), .int 0, .int 0, .int 0, .ref (ma 9), .int 0, .int 0, .ref (ma 10), .ref (ma 11), .ref (ma 12), .int 0, .int 0])), (ma 1, .inl (kc 0, 2880, .inl at0))] sz)) 0 0 (va_A [(ma 0, .inr (11, [.ref (ma 1), .ref (ma 2), .int 0, .long 0, .long 1, .ref (ma 3), .ref (ma 4), .ref (ma 5), .ref (ma 6), .ref (ma 7), .int 0, .int 0, .int 0, .int 0, .int 0, .int 0, .int (-1), .int (-1), .int 0, .int 0, .int 0, .ref (ma 8), .int 0, .int 0, .int (-1), .int 0, .int 0, .int 0, .ref (ma 9), .int 0, .int 0, .ref (ma 10), .ref (ma 11), .ref (ma 12), .int 0, .int 0])), (ma 1, .inl (kc 0, 2880, .inl at0))] sz) := by
  refine Met.ofW (cc := cX12_costOf) (maxL := 8) (ret := (some .int)) (by decide) rfl ?_
  intro p e s m args below meth c s₁ B hml hv
  obtain ⟨rfl, hsz, hP, hE, hD0⟩ := hv
  have hx := B.exec
  have hb := B.bytes
  have hr := B.returns
  have hts := atoms_spec (ws := vm_costOf) B.pre
  have hown : s.vm.findClass RX12 = some m.cls := findClass_of_methodNamed B.named
  have hlocks := B.notSynchronized
  subst hsz
  have hD := hD0.self (sz := s.heap.size)
  generalize hAe : va_A [(ma 0, .inr (11, [.ref (ma 1), .ref (ma 2), .int 0, .long 0, .long 1, .ref (ma 3), .ref (ma 4), .ref (ma 5), .ref (ma 6), .ref (ma 7), .int 0, .int 0, .int 0, .int 0, .int 0, .int 0, .int (-1), .int (-1), .int 0, .int 0, .int 0, .ref (ma 8), .int 0, .int 0, .int (-1), .int 0, .int 0, .int 0, .ref (ma 9), .int 0, .int 0, .ref (ma 10), .ref (ma 11), .ref (ma 12), .int 0, .int 0])), (ma 1, .inl (kc 0, 2880, .inl at0))] s.heap.size = A at hD ⊢
  have hA : ∀ q : Nat, s.heap.size ≤ q → A q := fun q h => by rw [← hAe]; exact Or.inr h
  have hS : va_S A s.heap s.heap [] := va_S.rf
  have hK := hE.1
  have hP : va_P D vwCl [(ma 0, .inr (11, [.ref (ma 1), .ref (ma 2), .int 0, .long 0, .long 1, .ref (ma 3), .ref (ma 4), .ref (ma 5), .ref (ma 6), .ref (ma 7), .int 0, .int 0, .int 0, .int 0, .int 0, .int 0, .int (-1), .int (-1), .int 0, .int 0, .int 0, .ref (ma 8), .int 0, .int 0, .int (-1), .int 0, .int 0, .int 0, .ref (ma 9), .int 0, .int 0, .ref (ma 10), .ref (ma 11), .ref (ma 12), .int 0, .int 0])), (ma 1, .inl (kc 0, 2880, .inl at0))] s.heap := hP
  have hl := lv_entry ([.ref (ma 0), .int q]) (n := 8) (Nat.le_of_ble_eq_true rfl)
  rw [lg_entry_eq]
  generalize (lg_sl ([.ref (ma 0), .int q]) ++ List.replicate (8 - (lg_sl ([.ref (ma 0), .int q])).length) Slot.unset).toArray = ls at hl ⊢
  have hl : lv_has ls 8 [(0, .ref (ma 0)), (1, .int q)] := hl
  by_cases hq : q ≤ 0
  · refine lv_iload_n hx hb dX12_costOf_0 rfl (lv_at hl 1 rfl) ?_
    refine lv_istore_n (lv' := [(2, .int q), (0, .ref (ma 0)), (1, .int q)]) hx hb dX12_costOf_1 rfl hl (by decide) rfl (fun ls hl => ?_)
    refine lv_iconst (v := 0) hx hb dX12_costOf_2 (by decide) ?_
    refine lv_istore_n (lv' := [(3, .int 0), (2, .int q), (0, .ref (ma 0)), (1, .int q)]) hx hb dX12_costOf_3 rfl hl (by decide) rfl (fun ls hl => ?_)
    refine lv_aload_n hx hb dX12_costOf_4 rfl (lv_at hl 2 rfl) ?_
    refine lv_iconst (v := 0) hx hb dX12_costOf_5 (by decide) ?_
    refine va_put (D := D) (ci := 11) (v := .int 0) (ty := .int) (C := RX12) (T := TX12) (N := 36) hx hb hts im_costOf_X12 tyX12 tyX12_ok nmX12 hown hK hP hD hS 0 rfl rfl 27 (by decide) (hts (.fieldLink RX12 374 "SaltStreetModel" "lastPrice" "I") (List.mem_of_getElem? (i := 1) rfl)) (fun _ h9 => h9) rfl (by decide +kernel) rfl rfl (Nat.le_of_ble_eq_true rfl) dX12_costOf_6 (fun H locs hP hD hS => ?_)
    have hP : va_P D vwCl [(ma 0, .inr (11, [.ref (ma 1), .ref (ma 2), .int 0, .long 0, .long 1, .ref (ma 3), .ref (ma 4), .ref (ma 5), .ref (ma 6), .ref (ma 7), .int 0, .int 0, .int 0, .int 0, .int 0, .int 0, .int (-1), .int (-1), .int 0, .int 0, .int 0, .ref (ma 8), .int 0, .int 0, .int (-1), .int 0, .int 0, .int 0, .ref (ma 9), .int 0, .int 0, .ref (ma 10), .ref (ma 11), .ref (ma 12), .int 0, .int 0])), (ma 1, .inl (kc 0, 2880, .inl at0))] H := hP
    have hD : va_D A [(ma 0, .inr (11, [.ref (ma 1), .ref (ma 2), .int 0, .long 0, .long 1, .ref (ma 3), .ref (ma 4), .ref (ma 5), .ref (ma 6), .ref (ma 7), .int 0, .int 0, .int 0, .int 0, .int 0, .int 0, .int (-1), .int (-1), .int 0, .int 0, .int 0, .ref (ma 8), .int 0, .int 0, .int (-1), .int 0, .int 0, .int 0, .ref (ma 9), .int 0, .int 0, .ref (ma 10), .ref (ma 11), .ref (ma 12), .int 0, .int 0])), (ma 1, .inl (kc 0, 2880, .inl at0))] := hD
    refine lv_iconst (v := 1) hx hb dX12_costOf_9 (by decide) ?_
    refine lv_istore (lv' := [(4, .int 1), (3, .int 0), (2, .int q), (0, .ref (ma 0)), (1, .int q)]) hx hb dX12_costOf_10 hl (by decide) rfl (fun ls hl => ?_)
    refine lv_iload hx hb dX12_costOf_12 (lv_at hl 0 rfl) ?_
    refine lv_bipush (v := 100) hx hb dX12_costOf_14 (by decide) ?_
    refine lv_icmp_ge (tgt := 113) hx hb dX12_costOf_16 (by decide) (fun h => absurd h (by decide)) (fun _ => ?_)
    refine lv_iload_n hx hb dX12_costOf_19 rfl (lv_at hl 2 rfl) ?_
    refine lv_if_le (tgt := 113) hx hb dX12_costOf_20 (by decide) (fun _ => ?_) (fun h => absurd hq h)
    refine lv_iload_n hx hb dX12_costOf_113 rfl (lv_at hl 2 rfl) ?_
    refine lv_if_le (tgt := 121) hx hb dX12_costOf_114 (by decide) (fun _ => ?_) (fun h => absurd hq h)
    refine lv_iload_n hx hb dX12_costOf_121 rfl (lv_at hl 1 rfl) ?_
    have hP9 := hP.sub (ws' := [(ma 0, .inr (11, [.ref (ma 1), .ref (ma 2), .int 0, .long 0, .long 1, .ref (ma 3), .ref (ma 4), .ref (ma 5), .ref (ma 6), .ref (ma 7), .int 0, .int 0, .int 0, .int 0, .int 0, .int 0, .int (-1), .int (-1), .int 0, .int 0, .int 0, .ref (ma 8), .int 0, .int 0, .int (-1), .int 0, .int 0, .int 0, .ref (ma 9), .int 0, .int 0, .ref (ma 10), .ref (ma 11), .ref (ma 12), .int 0, .int 0])), (ma 1, .inl (kc 0, 2880, .inl at0))]) [0, 1] rfl
    have hD9 := hD.sub (ws' := [(ma 0, .inr (11, [.ref (ma 1), .ref (ma 2), .int 0, .long 0, .long 1, .ref (ma 3), .ref (ma 4), .ref (ma 5), .ref (ma 6), .ref (ma 7), .int 0, .int 0, .int 0, .int 0, .int 0, .int 0, .int (-1), .int (-1), .int 0, .int 0, .int 0, .ref (ma 8), .int 0, .int 0, .int (-1), .int 0, .int 0, .int 0, .ref (ma 9), .int 0, .int 0, .ref (ma 10), .ref (ma 11), .ref (ma 12), .int 0, .int 0])), (ma 1, .inl (kc 0, 2880, .inl at0))]) [0, 1] (by decide) rfl
    exact W.iret (v := 0) hx hb hr (fun t9 ht hW => ⟨⟨0, (), rfl, by first | exact (if_pos hq).symm | exact (if_neg hq).symm, ⟨by rw [ht]; exact hP9, hD9⟩⟩, hS.F ht⟩) hS.2.2 dX12_costOf_122
  · refine lv_iload_n hx hb dX12_costOf_0 rfl (lv_at hl 1 rfl) ?_
    refine lv_istore_n (lv' := [(2, .int q), (0, .ref (ma 0)), (1, .int q)]) hx hb dX12_costOf_1 rfl hl (by decide) rfl (fun ls hl => ?_)
    refine lv_iconst (v := 0) hx hb dX12_costOf_2 (by decide) ?_
    refine lv_istore_n (lv' := [(3, .int 0), (2, .int q), (0, .ref (ma 0)), (1, .int q)]) hx hb dX12_costOf_3 rfl hl (by decide) rfl (fun ls hl => ?_)
    refine lv_aload_n hx hb dX12_costOf_4 rfl (lv_at hl 2 rfl) ?_
    refine lv_iconst (v := 0) hx hb dX12_costOf_5 (by decide) ?_
    refine va_put (D := D) (ci := 11) (v := .int 0) (ty := .int) (C := RX12) (T := TX12) (N := 36) hx hb hts im_costOf_X12 tyX12 tyX12_ok nmX12 hown hK hP hD hS 0 rfl rfl 27 (by decide) (hts (.fieldLink RX12 374 "SaltStreetModel" "lastPrice" "I") (List.mem_of_getElem? (i := 1) rfl)) (fun _ h9 => h9) rfl (by decide +kernel) rfl rfl (Nat.le_of_ble_eq_true rfl) dX12_costOf_6 (fun H locs hP hD hS => ?_)
    have hP : va_P D vwCl [(ma 0, .inr (11, [.ref (ma 1), .ref (ma 2), .int 0, .long 0, .long 1, .ref (ma 3), .ref (ma 4), .ref (ma 5), .ref (ma 6), .ref (ma 7), .int 0, .int 0, .int 0, .int 0, .int 0, .int 0, .int (-1), .int (-1), .int 0, .int 0, .int 0, .ref (ma 8), .int 0, .int 0, .int (-1), .int 0, .int 0, .int 0, .ref (ma 9), .int 0, .int 0, .ref (ma 10), .ref (ma 11), .ref (ma 12), .int 0, .int 0])), (ma 1, .inl (kc 0, 2880, .inl at0))] H := hP
    have hD : va_D A [(ma 0, .inr (11, [.ref (ma 1), .ref (ma 2), .int 0, .long 0, .long 1, .ref (ma 3), .ref (ma 4), .ref (ma 5), .ref (ma 6), .ref (ma 7), .int 0, .int 0, .int 0, .int 0, .int 0, .int 0, .int (-1), .int (-1), .int 0, .int 0, .int 0, .ref (ma 8), .int 0, .int 0, .int (-1), .int 0, .int 0, .int 0, .ref (ma 9), .int 0, .int 0, .ref (ma 10), .ref (ma 11), .ref (ma 12), .int 0, .int 0])), (ma 1, .inl (kc 0, 2880, .inl at0))] := hD
    refine lv_iconst (v := 1) hx hb dX12_costOf_9 (by decide) ?_
    refine lv_istore (lv' := [(4, .int 1), (3, .int 0), (2, .int q), (0, .ref (ma 0)), (1, .int q)]) hx hb dX12_costOf_10 hl (by decide) rfl (fun ls hl => ?_)
    refine lp_cost_5 ma q hx hb hml hown hts hE hq (fun H locs ls hI12 hP hD hS hl => ?_) (100 + 1) 1 (Nat.le_of_ble_eq_true rfl) (by omega) _ _ ls (trivial) hP hD hS (lv_sub hl [0, 1, 2, 3, 4] rfl)
    refine lv_iload_n hx hb dX12_costOf_113 rfl (lv_at hl 2 rfl) ?_
    refine lv_if_le (tgt := 121) hx hb dX12_costOf_114 (by decide) (fun h => absurd h hq) (fun _ => ?_)
    refine lv_iconst (v := (-1)) hx hb dX12_costOf_117 (by decide) ?_
    refine lv_goto (tgt := 122) hx hb dX12_costOf_118 (by decide) ?_
    have hP9 := hP.sub (ws' := [(ma 0, .inr (11, [.ref (ma 1), .ref (ma 2), .int 0, .long 0, .long 1, .ref (ma 3), .ref (ma 4), .ref (ma 5), .ref (ma 6), .ref (ma 7), .int 0, .int 0, .int 0, .int 0, .int 0, .int 0, .int (-1), .int (-1), .int 0, .int 0, .int 0, .ref (ma 8), .int 0, .int 0, .int (-1), .int 0, .int 0, .int 0, .ref (ma 9), .int 0, .int 0, .ref (ma 10), .ref (ma 11), .ref (ma 12), .int 0, .int 0])), (ma 1, .inl (kc 0, 2880, .inl at0))]) [0, 1] rfl
    have hD9 := hD.sub (ws' := [(ma 0, .inr (11, [.ref (ma 1), .ref (ma 2), .int 0, .long 0, .long 1, .ref (ma 3), .ref (ma 4), .ref (ma 5), .ref (ma 6), .ref (ma 7), .int 0, .int 0, .int 0, .int 0, .int 0, .int 0, .int (-1), .int (-1), .int 0, .int 0, .int 0, .ref (ma 8), .int 0, .int 0, .int (-1), .int 0, .int 0, .int 0, .ref (ma 9), .int 0, .int 0, .ref (ma 10), .ref (ma 11), .ref (ma 12), .int 0, .int 0])), (ma 1, .inl (kc 0, 2880, .inl at0))]) [0, 1] (by decide) rfl
    exact W.iret (v := (-1)) hx hb hr (fun t9 ht hW => ⟨⟨(-1), (), rfl, by first | exact (if_pos hq).symm | exact (if_neg hq).symm, ⟨by rw [ht]; exact hP9, hD9⟩⟩, hS.F ht⟩) hS.2.2 dX12_costOf_122
theorem dX12_cost_0 : decode cX12_cost 0 = .ok (.iload_n 1, 1) := by decide +kernel
theorem dX12_cost_1 : decode cX12_cost 1 = .ok (.i2l, 1) := by decide +kernel
theorem dX12_cost_2 : decode cX12_cost 2 = .ok (.lconst 0, 1) := by decide +kernel
theorem dX12_cost_3 : decode cX12_cost 3 = .ok (.ldc2_w 377, 3) := by decide +kernel
theorem dX12_cost_6 : decode cX12_cost 6 = .ok (.invokestatic 298, 3) := by decide +kernel
theorem dX12_cost_9 : decode cX12_cost 9 = .ok (.ifCond .eq 15, 3) := by decide +kernel
theorem dX12_cost_24 : decode cX12_cost 24 = .ok (.aload_n 0, 1) := by decide +kernel
theorem dX12_cost_25 : decode cX12_cost 25 = .ok (.iconst 1, 1) := by decide +kernel
theorem dX12_cost_26 : decode cX12_cost 26 = .ok (.invokevirtual 72, 3) := by decide +kernel
theorem dX12_cost_29 : decode cX12_cost 29 = .ok (.ireturn, 1) := by decide +kernel
theorem dX12_cost_12 : decode cX12_cost 12 = .ok (.aload_n 0, 1) := by decide +kernel
theorem dX12_cost_13 : decode cX12_cost 13 = .ok (.aload_n 0, 1) := by decide +kernel
theorem dX12_cost_14 : decode cX12_cost 14 = .ok (.iload_n 1, 1) := by decide +kernel
theorem dX12_cost_15 : decode cX12_cost 15 = .ok (.invokevirtual 359, 3) := by decide +kernel
theorem dX12_cost_18 : decode cX12_cost 18 = .ok (.invokevirtual 344, 3) := by decide +kernel
theorem dX12_cost_21 : decode cX12_cost 21 = .ok (.goto 8, 3) := by decide +kernel
def vdq_cost_0 : List Cond := [.code yX12_cost cX12_cost 2 (some .int), .constantLong RX12 377 (9999), .methodLink RX12 298 yX12_isFrom, .code yX12_isFrom cX12_isFrom 6 (some .boolean), .static yX12_isFrom, .initialized RX12, .methodLink RX12 72 yX12_refuse, .code yX12_refuse cX12_refuse 2 (some .int), .fieldLink RX12 66 "SaltStreetModel" "status" "I", .instanceMethod yX12_refuse, .selects RX12 yX12_refuse yX12_refuse, .methodLink RX12 359 yX12_costOf, .code yX12_costOf cX12_costOf 8 (some .int), .fieldLink RX12 374 "SaltStreetModel" "lastPrice" "I", .fieldLink RX12 7 "SaltStreetModel" "at" "[I", .instanceMethod yX12_costOf, .selects RX12 yX12_costOf yX12_costOf, .methodLink RX12 344 yX12_orNone, .code yX12_orNone cX12_orNone 2 (some .int), .methodLink RX12 76 yX12_gives, .code yX12_gives cX12_gives 2 (some .int), .instanceMethod yX12_gives, .selects RX12 yX12_gives yX12_gives, .instanceMethod yX12_orNone]
def vdq_cost_1 : List Cond := [.selects RX12 yX12_orNone yX12_orNone]
def vdq_cost : List Cond := (vdq_cost_0 ++ vdq_cost_1)
def vq_cost : List Cond := vdq_cost ++ (wsX120 ++ ([] : List Cond))
theorem iq_cost_X12 : ∀ w ∈ wsX120, w ∈ vq_cost := fun _ h => List.mem_append_right _ (List.mem_append_left _ h)
set_option maxRecDepth 20000 in
theorem gq_cost_298_m_isFrom : GoodIn vq_cost (va_wsS RX12 298 yX12_isFrom vm_isFrom) := (goodIn_app (goodIn_r _ [2, 4, 5] rfl (by decide +kernel)) (goodIn_app (goodIn_r vdm_isFrom [3] rfl (by decide +kernel)) goodIn_nil))
set_option maxRecDepth 20000 in
theorem gq_cost_72_m_refuse : GoodIn vq_cost (wsV RX12 72 RX12 yX12_refuse vm_refuse) := (goodIn_app (goodIn_r _ [6, 9, 10, 5] rfl (by decide +kernel)) (goodIn_app (goodIn_r vdm_refuse [7, 8] rfl (by decide +kernel)) (goodIn_app (goodIn_sub iq_cost_X12 gdX12) goodIn_nil)))
set_option maxRecDepth 20000 in
theorem gq_cost_359_m_costOf : GoodIn vq_cost (wsV RX12 359 RX12 yX12_costOf vm_costOf) := (goodIn_app (goodIn_r _ [11, 15, 16, 5] rfl (by decide +kernel)) (goodIn_app (goodIn_r vdm_costOf [12, 13, 14] rfl (by decide +kernel)) (goodIn_app (goodIn_sub iq_cost_X12 gdX12) goodIn_nil)))
set_option maxRecDepth 20000 in
theorem gq_cost_344_m_orNone : GoodIn vq_cost (wsV RX12 344 RX12 yX12_orNone vm_orNone) := (goodIn_app (goodIn_r _ [17, 23, 24, 5] rfl (by decide +kernel)) (goodIn_app (goodIn_r vdm_orNone [18, 19, 20, 8, 21, 22, 5, 6, 7, 9, 10] rfl (by decide +kernel)) (goodIn_app (goodIn_sub iq_cost_X12 gdX12) goodIn_nil)))
set_option maxHeartbeats 4000000 in
set_option maxRecDepth 100000 in
theorem q_cost (l : Launch) (D : va_G) (kc : Nat → ClassId) (sz : Nat) (ma : Nat → Nat) (a0 : Int32) : Met l yX12_cost vq_cost ({ frames := 2, cells := 0, slots := 0, locals := 42 }) (va_Pc [.ref (ma 0), .int a0] (wPre D kc [(ma 0, .inr (11, [.ref (ma 1), .ref (ma 2), .int 0, .long 0, .long 1, .ref (ma 3), .ref (ma 4), .ref (ma 5), .ref (ma 6), .ref (ma 7), .int 0, .int 0, .int 0, .int 0, .int 0, .int 0, .int (-1), .int (-1), .int 0, .int 0, .int 0, .ref (ma 8), .int 0, .int 0, .int (-1), .int 0, .int 0, .int 0, .ref (ma 9), .int 0, .int 0, .ref (ma 10), .ref (ma 11), .ref (ma 12), .int 0, .int 0])), (ma 1, .inl (kc 0, 2880, .inl at0))] sz)) (va_Qi (fun (r : Int32) (_ : Unit) => r = (sCost a0)) wAny (va_A [(ma 0, .inr (11, [.ref (ma 1), .ref (ma 2), .int 0, .long 0, .long 1, .ref (ma 3), .ref (ma 4), .ref (ma 5), .ref (ma 6), .ref (ma 7), .int 0, .int 0, .int 0, .int 0, .int 0, .int 0, .int (-1), .int (-1), .int 0, .int 0, .int 0, .ref (ma 8), .int 0, .int 0, .int (-1), .int 0, .int 0, .int 0, .ref (ma 9), .int 0, .int 0, .ref (ma 10), .ref (ma 11), .ref (ma 12), .int 0, .int 0])), (ma 1, .inl (kc 0, 2880, .inl at0))] sz)) 0 0 (va_A [(ma 0, .inr (11, [.ref (ma 1), .ref (ma 2), .int 0, .long 0, .long 1, .ref (ma 3), .ref (ma 4), .ref (ma 5), .ref (ma 6), .ref (ma 7), .int 0, .int 0, .int 0, .int 0, .int 0, .int 0, .int (-1), .int (-1), .int 0, .int 0, .int 0, .ref (ma 8), .int 0, .int 0, .int (-1), .int 0, .int 0, .int 0, .ref (ma 9), .int 0, .int 0, .ref (ma 10), .ref (ma 11), .ref (ma 12), .int 0, .int 0])), (ma 1, .inl (kc 0, 2880, .inl at0))] sz) := by
  refine Met.ofW (cc := cX12_cost) (maxL := 2) (ret := (some .int)) (by decide) rfl ?_
  intro p e s m args below meth c s₁ B hml hv
  obtain ⟨rfl, hsz, hP, hE, hD0⟩ := hv
  have hx := B.exec
  have hb := B.bytes
  have hr := B.returns
  have hts := atoms_spec (ws := vq_cost) B.pre
  have hown : s.vm.findClass RX12 = some m.cls := findClass_of_methodNamed B.named
  have hlocks := B.notSynchronized
  subst hsz
  have hD := hD0.self (sz := s.heap.size)
  generalize hAe : va_A [(ma 0, .inr (11, [.ref (ma 1), .ref (ma 2), .int 0, .long 0, .long 1, .ref (ma 3), .ref (ma 4), .ref (ma 5), .ref (ma 6), .ref (ma 7), .int 0, .int 0, .int 0, .int 0, .int 0, .int 0, .int (-1), .int (-1), .int 0, .int 0, .int 0, .ref (ma 8), .int 0, .int 0, .int (-1), .int 0, .int 0, .int 0, .ref (ma 9), .int 0, .int 0, .ref (ma 10), .ref (ma 11), .ref (ma 12), .int 0, .int 0])), (ma 1, .inl (kc 0, 2880, .inl at0))] s.heap.size = A at hD ⊢
  have hA : ∀ q : Nat, s.heap.size ≤ q → A q := fun q h => by rw [← hAe]; exact Or.inr h
  have hS : va_S A s.heap s.heap [] := va_S.rf
  have hK := hE.1
  have hP : va_P D vwCl [(ma 0, .inr (11, [.ref (ma 1), .ref (ma 2), .int 0, .long 0, .long 1, .ref (ma 3), .ref (ma 4), .ref (ma 5), .ref (ma 6), .ref (ma 7), .int 0, .int 0, .int 0, .int 0, .int 0, .int 0, .int (-1), .int (-1), .int 0, .int 0, .int 0, .ref (ma 8), .int 0, .int 0, .int (-1), .int 0, .int 0, .int 0, .ref (ma 9), .int 0, .int 0, .ref (ma 10), .ref (ma 11), .ref (ma 12), .int 0, .int 0])), (ma 1, .inl (kc 0, 2880, .inl at0))] s.heap := hP
  have hl := lv_entry ([.ref (ma 0), .int a0]) (n := 2) (Nat.le_of_ble_eq_true rfl)
  rw [lg_entry_eq]
  generalize (lg_sl ([.ref (ma 0), .int a0]) ++ List.replicate (2 - (lg_sl ([.ref (ma 0), .int a0])).length) Slot.unset).toArray = ls at hl ⊢
  have hl : lv_has ls 2 [(0, .ref (ma 0)), (1, .int a0)] := hl
  refine lv_iload_n hx hb dX12_cost_0 rfl (lv_at hl 1 rfl) ?_
  refine lv_i2l (v := (a0.toInt64)) hx hb dX12_cost_1 rfl ?_
  refine lv_lconst (v := 0) hx hb dX12_cost_2 (by decide) ?_
  refine lv_ldc2 (v := 9999) hx hb hown (hts (.constantLong RX12 377 (9999)) (List.mem_of_getElem? (i := 1) rfl)) dX12_cost_3 ?_
  have hPc := hP.sub (ws' := []) [] rfl
  have hDc := hD.sub (ws' := []) [] (by decide) rfl
  have hFc := va_free (wc := []) hD hS hA [] rfl
  refine va_calli (va_runS (As := [.long (a0.toInt64), .long 0, .long 9999]) (rest := []) ⟨hx, hb, hml, hown, hts⟩ (m_isFrom l D kc s.heap.size (a0.toInt64) 0 9999) (va_cwS 3 hts gq_cost_298_m_isFrom rfl rfl rfl (by decide +kernel) ⟨Nat.le_of_ble_eq_true rfl, Nat.le_of_ble_eq_true rfl⟩) (preS_ok hPc hDc hE) rfl rfl hl.1 rfl (lv_room (Nat.le_of_ble_eq_true rfl)) dX12_cost_6 ⟨Nat.le_of_ble_eq_true rfl, Nat.le_of_ble_eq_true rfl⟩) hS (fun q _ h => hFc q h) hFc (fun r_6 u9 t9 H locs ht hvm hw hB hz1 hk1 hS => ?_)
  obtain ⟨hP1, hD1⟩ := hB
  rw [ht] at hP1
  obtain ⟨hP, hD⟩ := va_join (wr := [(ma 0, .inr (11, [.ref (ma 1), .ref (ma 2), .int 0, .long 0, .long 1, .ref (ma 3), .ref (ma 4), .ref (ma 5), .ref (ma 6), .ref (ma 7), .int 0, .int 0, .int 0, .int 0, .int 0, .int 0, .int (-1), .int (-1), .int 0, .int 0, .int 0, .ref (ma 8), .int 0, .int 0, .int (-1), .int 0, .int 0, .int 0, .ref (ma 9), .int 0, .int 0, .ref (ma 10), .ref (ma 11), .ref (ma 12), .int 0, .int 0])), (ma 1, .inl (kc 0, 2880, .inl at0))]) (w1 := []) hP hD [] [0, 1] rfl rfl (by decide) (by decide) hk1 hFc hP1 hD1
  have hP : va_P D vwCl [(ma 0, .inr (11, [.ref (ma 1), .ref (ma 2), .int 0, .long 0, .long 1, .ref (ma 3), .ref (ma 4), .ref (ma 5), .ref (ma 6), .ref (ma 7), .int 0, .int 0, .int 0, .int 0, .int 0, .int 0, .int (-1), .int (-1), .int 0, .int 0, .int 0, .ref (ma 8), .int 0, .int 0, .int (-1), .int 0, .int 0, .int 0, .ref (ma 9), .int 0, .int 0, .ref (ma 10), .ref (ma 11), .ref (ma 12), .int 0, .int 0])), (ma 1, .inl (kc 0, 2880, .inl at0))] H := hP
  have hD : va_D A [(ma 0, .inr (11, [.ref (ma 1), .ref (ma 2), .int 0, .long 0, .long 1, .ref (ma 3), .ref (ma 4), .ref (ma 5), .ref (ma 6), .ref (ma 7), .int 0, .int 0, .int 0, .int 0, .int 0, .int 0, .int (-1), .int (-1), .int 0, .int 0, .int 0, .ref (ma 8), .int 0, .int 0, .int (-1), .int 0, .int 0, .int 0, .ref (ma 9), .int 0, .int 0, .ref (ma 10), .ref (ma 11), .ref (ma 12), .int 0, .int 0])), (ma 1, .inl (kc 0, 2880, .inl at0))] := hD
  subst hw
  refine lv_if_eq (tgt := 24) hx hb dX12_cost_9 (by decide) (fun c_9 => ?_) (fun c_9 => ?_)
  · refine lv_aload_n hx hb dX12_cost_24 rfl (lv_at hl 0 rfl) ?_
    refine lv_iconst (v := 1) hx hb dX12_cost_25 (by decide) ?_
    have hPc := hP.sub (ws' := [(ma 0, .inr (11, [.ref (ma 1), .ref (ma 2), .int 0, .long 0, .long 1, .ref (ma 3), .ref (ma 4), .ref (ma 5), .ref (ma 6), .ref (ma 7), .int 0, .int 0, .int 0, .int 0, .int 0, .int 0, .int (-1), .int (-1), .int 0, .int 0, .int 0, .ref (ma 8), .int 0, .int 0, .int (-1), .int 0, .int 0, .int 0, .ref (ma 9), .int 0, .int 0, .ref (ma 10), .ref (ma 11), .ref (ma 12), .int 0, .int 0]))]) [0] rfl
    have hDc := hD.sub (ws' := [(ma 0, .inr (11, [.ref (ma 1), .ref (ma 2), .int 0, .long 0, .long 1, .ref (ma 3), .ref (ma 4), .ref (ma 5), .ref (ma 6), .ref (ma 7), .int 0, .int 0, .int 0, .int 0, .int 0, .int 0, .int (-1), .int (-1), .int 0, .int 0, .int 0, .ref (ma 8), .int 0, .int 0, .int (-1), .int 0, .int 0, .int 0, .ref (ma 9), .int 0, .int 0, .ref (ma 10), .ref (ma 11), .ref (ma 12), .int 0, .int 0]))]) [0] (by decide) rfl
    have hFc := va_free (wc := [(ma 0, .inr (11, [.ref (ma 1), .ref (ma 2), .int 0, .long 0, .long 1, .ref (ma 3), .ref (ma 4), .ref (ma 5), .ref (ma 6), .ref (ma 7), .int 0, .int 0, .int 0, .int 0, .int 0, .int 0, .int (-1), .int (-1), .int 0, .int 0, .int 0, .ref (ma 8), .int 0, .int 0, .int (-1), .int 0, .int 0, .int 0, .ref (ma 9), .int 0, .int 0, .ref (ma 10), .ref (ma 11), .ref (ma 12), .int 0, .int 0]))]) hD hS hA [0] rfl
    refine va_calli (va_runV (As := [.int 1]) (rest := []) ⟨hx, hb, hml, hown, hts⟩ (m_refuse l D kc H.size ma 0 0 1 0 0 0 0 0 0 (-1) (-1) 0 0 0 0 0 (-1) 0 0 0 0 0 0 0 1) (cwV 1 hts gq_cost_72_m_refuse rfl rfl rfl (by decide +kernel) ⟨Nat.le_of_ble_eq_true rfl, Nat.le_of_ble_eq_true rfl⟩) (preV_ok hPc hDc hE (ci := 11) (q0 := 0) rfl rfl) rfl rfl hl.1 rfl (lv_room (Nat.le_of_ble_eq_true rfl)) dX12_cost_26 ⟨Nat.le_of_ble_eq_true rfl, Nat.le_of_ble_eq_true rfl⟩) hS (fun q _ h => hFc q h) hFc (fun r_26_1 u9 t9 H locs ht hvm hw hB hz1 hk1 hS => ?_)
    obtain ⟨hP1, hD1⟩ := hB
    rw [ht] at hP1
    obtain ⟨hP, hD⟩ := va_join (wr := [(ma 1, .inl (kc 0, 2880, .inl at0))]) (w1 := [(ma 0, .inr (11, [.ref (ma 1), .ref (ma 2), .int 1, .long 0, .long 1, .ref (ma 3), .ref (ma 4), .ref (ma 5), .ref (ma 6), .ref (ma 7), .int 0, .int 0, .int 0, .int 0, .int 0, .int 0, .int (-1), .int (-1), .int 0, .int 0, .int 0, .ref (ma 8), .int 0, .int 0, .int (-1), .int 0, .int 0, .int 0, .ref (ma 9), .int 0, .int 0, .ref (ma 10), .ref (ma 11), .ref (ma 12), .int 0, .int 0]))]) hP hD [0] [1] rfl rfl (by decide) (by decide) hk1 hFc hP1 hD1
    have hP : va_P D vwCl [(ma 1, .inl (kc 0, 2880, .inl at0)), (ma 0, .inr (11, [.ref (ma 1), .ref (ma 2), .int 1, .long 0, .long 1, .ref (ma 3), .ref (ma 4), .ref (ma 5), .ref (ma 6), .ref (ma 7), .int 0, .int 0, .int 0, .int 0, .int 0, .int 0, .int (-1), .int (-1), .int 0, .int 0, .int 0, .ref (ma 8), .int 0, .int 0, .int (-1), .int 0, .int 0, .int 0, .ref (ma 9), .int 0, .int 0, .ref (ma 10), .ref (ma 11), .ref (ma 12), .int 0, .int 0]))] H := hP
    have hD : va_D A [(ma 1, .inl (kc 0, 2880, .inl at0)), (ma 0, .inr (11, [.ref (ma 1), .ref (ma 2), .int 1, .long 0, .long 1, .ref (ma 3), .ref (ma 4), .ref (ma 5), .ref (ma 6), .ref (ma 7), .int 0, .int 0, .int 0, .int 0, .int 0, .int 0, .int (-1), .int (-1), .int 0, .int 0, .int 0, .ref (ma 8), .int 0, .int 0, .int (-1), .int 0, .int 0, .int 0, .ref (ma 9), .int 0, .int 0, .ref (ma 10), .ref (ma 11), .ref (ma 12), .int 0, .int 0]))] := hD
    subst hw
    exact W.iret (v := (-1)) hx hb hr (fun t9 ht hW => ⟨⟨(-1), (), rfl, by first | exact (if_neg (cost_m1 c_9)).symm | exact cost_m2 c_9, trivial⟩, hS.F ht⟩) hS.2.2 dX12_cost_29
  · refine lv_aload_n hx hb dX12_cost_12 rfl (lv_at hl 0 rfl) ?_
    refine lv_aload_n hx hb dX12_cost_13 rfl (lv_at hl 0 rfl) ?_
    refine lv_iload_n hx hb dX12_cost_14 rfl (lv_at hl 1 rfl) ?_
    have hPc := hP.sub (ws' := [(ma 0, .inr (11, [.ref (ma 1), .ref (ma 2), .int 0, .long 0, .long 1, .ref (ma 3), .ref (ma 4), .ref (ma 5), .ref (ma 6), .ref (ma 7), .int 0, .int 0, .int 0, .int 0, .int 0, .int 0, .int (-1), .int (-1), .int 0, .int 0, .int 0, .ref (ma 8), .int 0, .int 0, .int (-1), .int 0, .int 0, .int 0, .ref (ma 9), .int 0, .int 0, .ref (ma 10), .ref (ma 11), .ref (ma 12), .int 0, .int 0])), (ma 1, .inl (kc 0, 2880, .inl at0))]) [0, 1] rfl
    have hDc := hD.sub (ws' := [(ma 0, .inr (11, [.ref (ma 1), .ref (ma 2), .int 0, .long 0, .long 1, .ref (ma 3), .ref (ma 4), .ref (ma 5), .ref (ma 6), .ref (ma 7), .int 0, .int 0, .int 0, .int 0, .int 0, .int 0, .int (-1), .int (-1), .int 0, .int 0, .int 0, .ref (ma 8), .int 0, .int 0, .int (-1), .int 0, .int 0, .int 0, .ref (ma 9), .int 0, .int 0, .ref (ma 10), .ref (ma 11), .ref (ma 12), .int 0, .int 0])), (ma 1, .inl (kc 0, 2880, .inl at0))]) [0, 1] (by decide) rfl
    have hFc := va_free (wc := [(ma 0, .inr (11, [.ref (ma 1), .ref (ma 2), .int 0, .long 0, .long 1, .ref (ma 3), .ref (ma 4), .ref (ma 5), .ref (ma 6), .ref (ma 7), .int 0, .int 0, .int 0, .int 0, .int 0, .int 0, .int (-1), .int (-1), .int 0, .int 0, .int 0, .ref (ma 8), .int 0, .int 0, .int (-1), .int 0, .int 0, .int 0, .ref (ma 9), .int 0, .int 0, .ref (ma 10), .ref (ma 11), .ref (ma 12), .int 0, .int 0])), (ma 1, .inl (kc 0, 2880, .inl at0))]) hD hS hA [0, 1] rfl
    refine va_calli (va_runV (As := [.int a0]) (rest := [.ref (ma 0)]) ⟨hx, hb, hml, hown, hts⟩ (m_costOf l D kc H.size ma a0) (cwV 1 hts gq_cost_359_m_costOf rfl rfl rfl (by decide +kernel) ⟨Nat.le_of_ble_eq_true rfl, Nat.le_of_ble_eq_true rfl⟩) (preV_ok hPc hDc hE (ci := 11) (q0 := 0) rfl rfl) rfl rfl hl.1 rfl (lv_room (Nat.le_of_ble_eq_true rfl)) dX12_cost_15 ⟨Nat.le_of_ble_eq_true rfl, Nat.le_of_ble_eq_true rfl⟩) hS (fun q _ h => hFc q h) hFc (fun r_15_1 u9 t9 H locs ht hvm hw hB hz1 hk1 hS => ?_)
    obtain ⟨hP1, hD1⟩ := hB
    rw [ht] at hP1
    obtain ⟨hP, hD⟩ := va_join (wr := []) (w1 := [(ma 0, .inr (11, [.ref (ma 1), .ref (ma 2), .int 0, .long 0, .long 1, .ref (ma 3), .ref (ma 4), .ref (ma 5), .ref (ma 6), .ref (ma 7), .int 0, .int 0, .int 0, .int 0, .int 0, .int 0, .int (-1), .int (-1), .int 0, .int 0, .int 0, .ref (ma 8), .int 0, .int 0, .int (-1), .int 0, .int 0, .int 0, .ref (ma 9), .int 0, .int 0, .ref (ma 10), .ref (ma 11), .ref (ma 12), .int 0, .int 0])), (ma 1, .inl (kc 0, 2880, .inl at0))]) hP hD [0, 1] [] rfl rfl (by decide) (by decide) hk1 hFc hP1 hD1
    have hP : va_P D vwCl [(ma 0, .inr (11, [.ref (ma 1), .ref (ma 2), .int 0, .long 0, .long 1, .ref (ma 3), .ref (ma 4), .ref (ma 5), .ref (ma 6), .ref (ma 7), .int 0, .int 0, .int 0, .int 0, .int 0, .int 0, .int (-1), .int (-1), .int 0, .int 0, .int 0, .ref (ma 8), .int 0, .int 0, .int (-1), .int 0, .int 0, .int 0, .ref (ma 9), .int 0, .int 0, .ref (ma 10), .ref (ma 11), .ref (ma 12), .int 0, .int 0])), (ma 1, .inl (kc 0, 2880, .inl at0))] H := hP
    have hD : va_D A [(ma 0, .inr (11, [.ref (ma 1), .ref (ma 2), .int 0, .long 0, .long 1, .ref (ma 3), .ref (ma 4), .ref (ma 5), .ref (ma 6), .ref (ma 7), .int 0, .int 0, .int 0, .int 0, .int 0, .int 0, .int (-1), .int (-1), .int 0, .int 0, .int 0, .ref (ma 8), .int 0, .int 0, .int (-1), .int 0, .int 0, .int 0, .ref (ma 9), .int 0, .int 0, .ref (ma 10), .ref (ma 11), .ref (ma 12), .int 0, .int 0])), (ma 1, .inl (kc 0, 2880, .inl at0))] := hD
    subst hw
    have hPc := hP.sub (ws' := [(ma 0, .inr (11, [.ref (ma 1), .ref (ma 2), .int 0, .long 0, .long 1, .ref (ma 3), .ref (ma 4), .ref (ma 5), .ref (ma 6), .ref (ma 7), .int 0, .int 0, .int 0, .int 0, .int 0, .int 0, .int (-1), .int (-1), .int 0, .int 0, .int 0, .ref (ma 8), .int 0, .int 0, .int (-1), .int 0, .int 0, .int 0, .ref (ma 9), .int 0, .int 0, .ref (ma 10), .ref (ma 11), .ref (ma 12), .int 0, .int 0]))]) [0] rfl
    have hDc := hD.sub (ws' := [(ma 0, .inr (11, [.ref (ma 1), .ref (ma 2), .int 0, .long 0, .long 1, .ref (ma 3), .ref (ma 4), .ref (ma 5), .ref (ma 6), .ref (ma 7), .int 0, .int 0, .int 0, .int 0, .int 0, .int 0, .int (-1), .int (-1), .int 0, .int 0, .int 0, .ref (ma 8), .int 0, .int 0, .int (-1), .int 0, .int 0, .int 0, .ref (ma 9), .int 0, .int 0, .ref (ma 10), .ref (ma 11), .ref (ma 12), .int 0, .int 0]))]) [0] (by decide) rfl
    have hFc := va_free (wc := [(ma 0, .inr (11, [.ref (ma 1), .ref (ma 2), .int 0, .long 0, .long 1, .ref (ma 3), .ref (ma 4), .ref (ma 5), .ref (ma 6), .ref (ma 7), .int 0, .int 0, .int 0, .int 0, .int 0, .int 0, .int (-1), .int (-1), .int 0, .int 0, .int 0, .ref (ma 8), .int 0, .int 0, .int (-1), .int 0, .int 0, .int 0, .ref (ma 9), .int 0, .int 0, .ref (ma 10), .ref (ma 11), .ref (ma 12), .int 0, .int 0]))]) hD hS hA [0] rfl
    refine va_calli (va_runV (As := [.int (sCo a0)]) (rest := []) ⟨hx, hb, hml, hown, hts⟩ (m_orNone l D kc H.size ma 0 0 1 0 0 0 0 0 0 (-1) (-1) 0 0 0 0 0 (-1) 0 0 0 0 0 0 0 (sCo a0)) (cwV 1 hts gq_cost_344_m_orNone rfl rfl rfl (by decide +kernel) ⟨Nat.le_of_ble_eq_true rfl, Nat.le_of_ble_eq_true rfl⟩) (preV_ok hPc hDc hE (ci := 11) (q0 := 0) rfl rfl) rfl rfl hl.1 rfl (lv_room (Nat.le_of_ble_eq_true rfl)) dX12_cost_18 ⟨Nat.le_of_ble_eq_true rfl, Nat.le_of_ble_eq_true rfl⟩) hS (fun q _ h => hFc q h) hFc (fun r_18_1 u9 t9 H locs ht hvm hw hB hz1 hk1 hS => ?_)
    obtain ⟨hP, hD⟩ := va_join (wr := [(ma 1, .inl (kc 0, 2880, .inl at0))]) (w1 := []) hP hD [0] [1] rfl rfl (by decide) (by decide) hk1 hFc (fun _ _ h => by simp at h) ⟨fun _ _ _ _ h => by simp at h, fun _ _ h => by simp at h⟩
    have hP : va_P D vwCl [(ma 1, .inl (kc 0, 2880, .inl at0))] H := hP
    have hD : va_D A [(ma 1, .inl (kc 0, 2880, .inl at0))] := hD
    subst hw
    refine lv_goto (tgt := 29) hx hb dX12_cost_21 (by decide) ?_
    exact W.iret (v := (sCo a0)) hx hb hr (fun t9 ht hW => ⟨⟨(sCo a0), (), rfl, by first | exact (if_neg (cost_m1 c_9)).symm | exact cost_m2 c_9, trivial⟩, hS.F ht⟩) hS.2.2 dX12_cost_29
theorem dX12_dearest_0 : decode cX12_dearest 0 = .ok (.iload_n 1, 1) := by decide +kernel
theorem dX12_dearest_1 : decode cX12_dearest 1 = .ok (.i2l, 1) := by decide +kernel
theorem dX12_dearest_2 : decode cX12_dearest 2 = .ok (.lconst 1, 1) := by decide +kernel
theorem dX12_dearest_3 : decode cX12_dearest 3 = .ok (.ldc2_w 377, 3) := by decide +kernel
theorem dX12_dearest_6 : decode cX12_dearest 6 = .ok (.invokestatic 298, 3) := by decide +kernel
theorem dX12_dearest_9 : decode cX12_dearest 9 = .ok (.ifCond .ne 9, 3) := by decide +kernel
theorem dX12_dearest_18 : decode cX12_dearest 18 = .ok (.aload_n 0, 1) := by decide +kernel
theorem dX12_dearest_19 : decode cX12_dearest 19 = .ok (.iload_n 1, 1) := by decide +kernel
theorem dX12_dearest_20 : decode cX12_dearest 20 = .ok (.invokevirtual 359, 3) := by decide +kernel
theorem dX12_dearest_23 : decode cX12_dearest 23 = .ok (.iconst (-1), 1) := by decide +kernel
theorem dX12_dearest_24 : decode cX12_dearest 24 = .ok (.if_icmp .ne 12, 3) := by decide +kernel
theorem dX12_dearest_36 : decode cX12_dearest 36 = .ok (.aload_n 0, 1) := by decide +kernel
theorem dX12_dearest_37 : decode cX12_dearest 37 = .ok (.aload_n 0, 1) := by decide +kernel
theorem dX12_dearest_38 : decode cX12_dearest 38 = .ok (.getfield 374, 3) := by decide +kernel
theorem dX12_dearest_41 : decode cX12_dearest 41 = .ok (.invokevirtual 76, 3) := by decide +kernel
theorem dX12_dearest_44 : decode cX12_dearest 44 = .ok (.ireturn, 1) := by decide +kernel
theorem dX12_dearest_27 : decode cX12_dearest 27 = .ok (.aload_n 0, 1) := by decide +kernel
theorem dX12_dearest_28 : decode cX12_dearest 28 = .ok (.bipush 6, 2) := by decide +kernel
theorem dX12_dearest_30 : decode cX12_dearest 30 = .ok (.invokevirtual 72, 3) := by decide +kernel
theorem dX12_dearest_33 : decode cX12_dearest 33 = .ok (.goto 11, 3) := by decide +kernel
theorem dX12_dearest_12 : decode cX12_dearest 12 = .ok (.aload_n 0, 1) := by decide +kernel
theorem dX12_dearest_13 : decode cX12_dearest 13 = .ok (.iconst 1, 1) := by decide +kernel
theorem dX12_dearest_14 : decode cX12_dearest 14 = .ok (.invokevirtual 72, 3) := by decide +kernel
theorem dX12_dearest_17 : decode cX12_dearest 17 = .ok (.ireturn, 1) := by decide +kernel
def vdq_dearest : List Cond := [.code yX12_dearest cX12_dearest 2 (some .int), .constantLong RX12 377 (9999), .methodLink RX12 298 yX12_isFrom, .code yX12_isFrom cX12_isFrom 6 (some .boolean), .static yX12_isFrom, .initialized RX12, .methodLink RX12 359 yX12_costOf, .code yX12_costOf cX12_costOf 8 (some .int), .fieldLink RX12 374 "SaltStreetModel" "lastPrice" "I", .fieldLink RX12 7 "SaltStreetModel" "at" "[I", .instanceMethod yX12_costOf, .selects RX12 yX12_costOf yX12_costOf, .methodLink RX12 76 yX12_gives, .code yX12_gives cX12_gives 2 (some .int), .fieldLink RX12 66 "SaltStreetModel" "status" "I", .instanceMethod yX12_gives, .selects RX12 yX12_gives yX12_gives, .methodLink RX12 72 yX12_refuse, .code yX12_refuse cX12_refuse 2 (some .int), .instanceMethod yX12_refuse, .selects RX12 yX12_refuse yX12_refuse]
def vq_dearest : List Cond := vdq_dearest ++ (wsX120 ++ ([] : List Cond))
theorem iq_dearest_X12 : ∀ w ∈ wsX120, w ∈ vq_dearest := fun _ h => List.mem_append_right _ (List.mem_append_left _ h)
set_option maxRecDepth 20000 in
theorem gq_dearest_298_m_isFrom : GoodIn vq_dearest (va_wsS RX12 298 yX12_isFrom vm_isFrom) := (goodIn_app (goodIn_r _ [2, 4, 5] rfl (by decide +kernel)) (goodIn_app (goodIn_r vdm_isFrom [3] rfl (by decide +kernel)) goodIn_nil))
set_option maxRecDepth 20000 in
theorem gq_dearest_359_m_costOf : GoodIn vq_dearest (wsV RX12 359 RX12 yX12_costOf vm_costOf) := (goodIn_app (goodIn_r _ [6, 10, 11, 5] rfl (by decide +kernel)) (goodIn_app (goodIn_r vdm_costOf [7, 8, 9] rfl (by decide +kernel)) (goodIn_app (goodIn_sub iq_dearest_X12 gdX12) goodIn_nil)))
set_option maxRecDepth 20000 in
theorem gq_dearest_76_m_gives : GoodIn vq_dearest (wsV RX12 76 RX12 yX12_gives vm_gives) := (goodIn_app (goodIn_r _ [12, 15, 16, 5] rfl (by decide +kernel)) (goodIn_app (goodIn_r vdm_gives [13, 14] rfl (by decide +kernel)) (goodIn_app (goodIn_sub iq_dearest_X12 gdX12) goodIn_nil)))
set_option maxRecDepth 20000 in
theorem gq_dearest_72_m_refuse : GoodIn vq_dearest (wsV RX12 72 RX12 yX12_refuse vm_refuse) := (goodIn_app (goodIn_r _ [17, 19, 20, 5] rfl (by decide +kernel)) (goodIn_app (goodIn_r vdm_refuse [18, 14] rfl (by decide +kernel)) (goodIn_app (goodIn_sub iq_dearest_X12 gdX12) goodIn_nil)))
set_option maxHeartbeats 4000000 in
set_option maxRecDepth 100000 in
theorem q_dearest (l : Launch) (D : va_G) (kc : Nat → ClassId) (sz : Nat) (ma : Nat → Nat) (a0 : Int32) : Met l yX12_dearest vq_dearest ({ frames := 1, cells := 0, slots := 0, locals := 27 }) (va_Pc [.ref (ma 0), .int a0] (wPre D kc [(ma 0, .inr (11, [.ref (ma 1), .ref (ma 2), .int 0, .long 0, .long 1, .ref (ma 3), .ref (ma 4), .ref (ma 5), .ref (ma 6), .ref (ma 7), .int 0, .int 0, .int 0, .int 0, .int 0, .int 0, .int (-1), .int (-1), .int 0, .int 0, .int 0, .ref (ma 8), .int 0, .int 0, .int (-1), .int 0, .int 0, .int 0, .ref (ma 9), .int 0, .int 0, .ref (ma 10), .ref (ma 11), .ref (ma 12), .int 0, .int 0])), (ma 1, .inl (kc 0, 2880, .inl at0))] sz)) (va_Qi (fun (r : Int32) (_ : Unit) => r = (-1)) wAny (va_A [(ma 0, .inr (11, [.ref (ma 1), .ref (ma 2), .int 0, .long 0, .long 1, .ref (ma 3), .ref (ma 4), .ref (ma 5), .ref (ma 6), .ref (ma 7), .int 0, .int 0, .int 0, .int 0, .int 0, .int 0, .int (-1), .int (-1), .int 0, .int 0, .int 0, .ref (ma 8), .int 0, .int 0, .int (-1), .int 0, .int 0, .int 0, .ref (ma 9), .int 0, .int 0, .ref (ma 10), .ref (ma 11), .ref (ma 12), .int 0, .int 0])), (ma 1, .inl (kc 0, 2880, .inl at0))] sz)) 0 0 (va_A [(ma 0, .inr (11, [.ref (ma 1), .ref (ma 2), .int 0, .long 0, .long 1, .ref (ma 3), .ref (ma 4), .ref (ma 5), .ref (ma 6), .ref (ma 7), .int 0, .int 0, .int 0, .int 0, .int 0, .int 0, .int (-1), .int (-1), .int 0, .int 0, .int 0, .ref (ma 8), .int 0, .int 0, .int (-1), .int 0, .int 0, .int 0, .ref (ma 9), .int 0, .int 0, .ref (ma 10), .ref (ma 11), .ref (ma 12), .int 0, .int 0])), (ma 1, .inl (kc 0, 2880, .inl at0))] sz) := by
  refine Met.ofW (cc := cX12_dearest) (maxL := 2) (ret := (some .int)) (by decide) rfl ?_
  intro p e s m args below meth c s₁ B hml hv
  obtain ⟨rfl, hsz, hP, hE, hD0⟩ := hv
  have hx := B.exec
  have hb := B.bytes
  have hr := B.returns
  have hts := atoms_spec (ws := vq_dearest) B.pre
  have hown : s.vm.findClass RX12 = some m.cls := findClass_of_methodNamed B.named
  have hlocks := B.notSynchronized
  subst hsz
  have hD := hD0.self (sz := s.heap.size)
  generalize hAe : va_A [(ma 0, .inr (11, [.ref (ma 1), .ref (ma 2), .int 0, .long 0, .long 1, .ref (ma 3), .ref (ma 4), .ref (ma 5), .ref (ma 6), .ref (ma 7), .int 0, .int 0, .int 0, .int 0, .int 0, .int 0, .int (-1), .int (-1), .int 0, .int 0, .int 0, .ref (ma 8), .int 0, .int 0, .int (-1), .int 0, .int 0, .int 0, .ref (ma 9), .int 0, .int 0, .ref (ma 10), .ref (ma 11), .ref (ma 12), .int 0, .int 0])), (ma 1, .inl (kc 0, 2880, .inl at0))] s.heap.size = A at hD ⊢
  have hA : ∀ q : Nat, s.heap.size ≤ q → A q := fun q h => by rw [← hAe]; exact Or.inr h
  have hS : va_S A s.heap s.heap [] := va_S.rf
  have hK := hE.1
  have hP : va_P D vwCl [(ma 0, .inr (11, [.ref (ma 1), .ref (ma 2), .int 0, .long 0, .long 1, .ref (ma 3), .ref (ma 4), .ref (ma 5), .ref (ma 6), .ref (ma 7), .int 0, .int 0, .int 0, .int 0, .int 0, .int 0, .int (-1), .int (-1), .int 0, .int 0, .int 0, .ref (ma 8), .int 0, .int 0, .int (-1), .int 0, .int 0, .int 0, .ref (ma 9), .int 0, .int 0, .ref (ma 10), .ref (ma 11), .ref (ma 12), .int 0, .int 0])), (ma 1, .inl (kc 0, 2880, .inl at0))] s.heap := hP
  have hl := lv_entry ([.ref (ma 0), .int a0]) (n := 2) (Nat.le_of_ble_eq_true rfl)
  rw [lg_entry_eq]
  generalize (lg_sl ([.ref (ma 0), .int a0]) ++ List.replicate (2 - (lg_sl ([.ref (ma 0), .int a0])).length) Slot.unset).toArray = ls at hl ⊢
  have hl : lv_has ls 2 [(0, .ref (ma 0)), (1, .int a0)] := hl
  refine lv_iload_n hx hb dX12_dearest_0 rfl (lv_at hl 1 rfl) ?_
  refine lv_i2l (v := (a0.toInt64)) hx hb dX12_dearest_1 rfl ?_
  refine lv_lconst (v := 1) hx hb dX12_dearest_2 (by decide) ?_
  refine lv_ldc2 (v := 9999) hx hb hown (hts (.constantLong RX12 377 (9999)) (List.mem_of_getElem? (i := 1) rfl)) dX12_dearest_3 ?_
  have hPc := hP.sub (ws' := []) [] rfl
  have hDc := hD.sub (ws' := []) [] (by decide) rfl
  have hFc := va_free (wc := []) hD hS hA [] rfl
  refine va_calli (va_runS (As := [.long (a0.toInt64), .long 1, .long 9999]) (rest := []) ⟨hx, hb, hml, hown, hts⟩ (m_isFrom l D kc s.heap.size (a0.toInt64) 1 9999) (va_cwS 3 hts gq_dearest_298_m_isFrom rfl rfl rfl (by decide +kernel) ⟨Nat.le_of_ble_eq_true rfl, Nat.le_of_ble_eq_true rfl⟩) (preS_ok hPc hDc hE) rfl rfl hl.1 rfl (lv_room (Nat.le_of_ble_eq_true rfl)) dX12_dearest_6 ⟨Nat.le_of_ble_eq_true rfl, Nat.le_of_ble_eq_true rfl⟩) hS (fun q _ h => hFc q h) hFc (fun r_6 u9 t9 H locs ht hvm hw hB hz1 hk1 hS => ?_)
  obtain ⟨hP1, hD1⟩ := hB
  rw [ht] at hP1
  obtain ⟨hP, hD⟩ := va_join (wr := [(ma 0, .inr (11, [.ref (ma 1), .ref (ma 2), .int 0, .long 0, .long 1, .ref (ma 3), .ref (ma 4), .ref (ma 5), .ref (ma 6), .ref (ma 7), .int 0, .int 0, .int 0, .int 0, .int 0, .int 0, .int (-1), .int (-1), .int 0, .int 0, .int 0, .ref (ma 8), .int 0, .int 0, .int (-1), .int 0, .int 0, .int 0, .ref (ma 9), .int 0, .int 0, .ref (ma 10), .ref (ma 11), .ref (ma 12), .int 0, .int 0])), (ma 1, .inl (kc 0, 2880, .inl at0))]) (w1 := []) hP hD [] [0, 1] rfl rfl (by decide) (by decide) hk1 hFc hP1 hD1
  have hP : va_P D vwCl [(ma 0, .inr (11, [.ref (ma 1), .ref (ma 2), .int 0, .long 0, .long 1, .ref (ma 3), .ref (ma 4), .ref (ma 5), .ref (ma 6), .ref (ma 7), .int 0, .int 0, .int 0, .int 0, .int 0, .int 0, .int (-1), .int (-1), .int 0, .int 0, .int 0, .ref (ma 8), .int 0, .int 0, .int (-1), .int 0, .int 0, .int 0, .ref (ma 9), .int 0, .int 0, .ref (ma 10), .ref (ma 11), .ref (ma 12), .int 0, .int 0])), (ma 1, .inl (kc 0, 2880, .inl at0))] H := hP
  have hD : va_D A [(ma 0, .inr (11, [.ref (ma 1), .ref (ma 2), .int 0, .long 0, .long 1, .ref (ma 3), .ref (ma 4), .ref (ma 5), .ref (ma 6), .ref (ma 7), .int 0, .int 0, .int 0, .int 0, .int 0, .int 0, .int (-1), .int (-1), .int 0, .int 0, .int 0, .ref (ma 8), .int 0, .int 0, .int (-1), .int 0, .int 0, .int 0, .ref (ma 9), .int 0, .int 0, .ref (ma 10), .ref (ma 11), .ref (ma 12), .int 0, .int 0])), (ma 1, .inl (kc 0, 2880, .inl at0))] := hD
  subst hw
  refine lv_if_ne (tgt := 18) hx hb dX12_dearest_9 (by decide) (fun c_9 => ?_) (fun c_9 => ?_)
  · refine lv_aload_n hx hb dX12_dearest_18 rfl (lv_at hl 0 rfl) ?_
    refine lv_iload_n hx hb dX12_dearest_19 rfl (lv_at hl 1 rfl) ?_
    have hPc := hP.sub (ws' := [(ma 0, .inr (11, [.ref (ma 1), .ref (ma 2), .int 0, .long 0, .long 1, .ref (ma 3), .ref (ma 4), .ref (ma 5), .ref (ma 6), .ref (ma 7), .int 0, .int 0, .int 0, .int 0, .int 0, .int 0, .int (-1), .int (-1), .int 0, .int 0, .int 0, .ref (ma 8), .int 0, .int 0, .int (-1), .int 0, .int 0, .int 0, .ref (ma 9), .int 0, .int 0, .ref (ma 10), .ref (ma 11), .ref (ma 12), .int 0, .int 0])), (ma 1, .inl (kc 0, 2880, .inl at0))]) [0, 1] rfl
    have hDc := hD.sub (ws' := [(ma 0, .inr (11, [.ref (ma 1), .ref (ma 2), .int 0, .long 0, .long 1, .ref (ma 3), .ref (ma 4), .ref (ma 5), .ref (ma 6), .ref (ma 7), .int 0, .int 0, .int 0, .int 0, .int 0, .int 0, .int (-1), .int (-1), .int 0, .int 0, .int 0, .ref (ma 8), .int 0, .int 0, .int (-1), .int 0, .int 0, .int 0, .ref (ma 9), .int 0, .int 0, .ref (ma 10), .ref (ma 11), .ref (ma 12), .int 0, .int 0])), (ma 1, .inl (kc 0, 2880, .inl at0))]) [0, 1] (by decide) rfl
    have hFc := va_free (wc := [(ma 0, .inr (11, [.ref (ma 1), .ref (ma 2), .int 0, .long 0, .long 1, .ref (ma 3), .ref (ma 4), .ref (ma 5), .ref (ma 6), .ref (ma 7), .int 0, .int 0, .int 0, .int 0, .int 0, .int 0, .int (-1), .int (-1), .int 0, .int 0, .int 0, .ref (ma 8), .int 0, .int 0, .int (-1), .int 0, .int 0, .int 0, .ref (ma 9), .int 0, .int 0, .ref (ma 10), .ref (ma 11), .ref (ma 12), .int 0, .int 0])), (ma 1, .inl (kc 0, 2880, .inl at0))]) hD hS hA [0, 1] rfl
    refine va_calli (va_runV (As := [.int a0]) (rest := []) ⟨hx, hb, hml, hown, hts⟩ (m_costOf l D kc H.size ma a0) (cwV 1 hts gq_dearest_359_m_costOf rfl rfl rfl (by decide +kernel) ⟨Nat.le_of_ble_eq_true rfl, Nat.le_of_ble_eq_true rfl⟩) (preV_ok hPc hDc hE (ci := 11) (q0 := 0) rfl rfl) rfl rfl hl.1 rfl (lv_room (Nat.le_of_ble_eq_true rfl)) dX12_dearest_20 ⟨Nat.le_of_ble_eq_true rfl, Nat.le_of_ble_eq_true rfl⟩) hS (fun q _ h => hFc q h) hFc (fun r_20_1 u9 t9 H locs ht hvm hw hB hz1 hk1 hS => ?_)
    obtain ⟨hP1, hD1⟩ := hB
    rw [ht] at hP1
    obtain ⟨hP, hD⟩ := va_join (wr := []) (w1 := [(ma 0, .inr (11, [.ref (ma 1), .ref (ma 2), .int 0, .long 0, .long 1, .ref (ma 3), .ref (ma 4), .ref (ma 5), .ref (ma 6), .ref (ma 7), .int 0, .int 0, .int 0, .int 0, .int 0, .int 0, .int (-1), .int (-1), .int 0, .int 0, .int 0, .ref (ma 8), .int 0, .int 0, .int (-1), .int 0, .int 0, .int 0, .ref (ma 9), .int 0, .int 0, .ref (ma 10), .ref (ma 11), .ref (ma 12), .int 0, .int 0])), (ma 1, .inl (kc 0, 2880, .inl at0))]) hP hD [0, 1] [] rfl rfl (by decide) (by decide) hk1 hFc hP1 hD1
    have hP : va_P D vwCl [(ma 0, .inr (11, [.ref (ma 1), .ref (ma 2), .int 0, .long 0, .long 1, .ref (ma 3), .ref (ma 4), .ref (ma 5), .ref (ma 6), .ref (ma 7), .int 0, .int 0, .int 0, .int 0, .int 0, .int 0, .int (-1), .int (-1), .int 0, .int 0, .int 0, .ref (ma 8), .int 0, .int 0, .int (-1), .int 0, .int 0, .int 0, .ref (ma 9), .int 0, .int 0, .ref (ma 10), .ref (ma 11), .ref (ma 12), .int 0, .int 0])), (ma 1, .inl (kc 0, 2880, .inl at0))] H := hP
    have hD : va_D A [(ma 0, .inr (11, [.ref (ma 1), .ref (ma 2), .int 0, .long 0, .long 1, .ref (ma 3), .ref (ma 4), .ref (ma 5), .ref (ma 6), .ref (ma 7), .int 0, .int 0, .int 0, .int 0, .int 0, .int 0, .int (-1), .int (-1), .int 0, .int 0, .int 0, .ref (ma 8), .int 0, .int 0, .int (-1), .int 0, .int 0, .int 0, .ref (ma 9), .int 0, .int 0, .ref (ma 10), .ref (ma 11), .ref (ma 12), .int 0, .int 0])), (ma 1, .inl (kc 0, 2880, .inl at0))] := hD
    subst hw
    refine lv_iconst (v := (-1)) hx hb dX12_dearest_23 (by decide) ?_
    refine lv_icmp_ne (tgt := 36) hx hb dX12_dearest_24 (by decide) (fun c_24 => ?_) (fun c_24 => ?_)
    · refine lv_aload_n hx hb dX12_dearest_36 rfl (lv_at hl 0 rfl) ?_
      refine lv_aload_n hx hb dX12_dearest_37 rfl (lv_at hl 0 rfl) ?_
      refine va_get (D := D) (ci := 11) (v := .int 0) (C := RX12) (T := TX12) (N := 36) hx hb hts iq_dearest_X12 hown hK hP 0 rfl rfl 27 (by decide) (hts (.fieldLink RX12 374 "SaltStreetModel" "lastPrice" "I") (List.mem_of_getElem? (i := 8) rfl)) (fun _ h9 => h9) rfl dX12_dearest_38 ?_
      have hPc := hP.sub (ws' := [(ma 0, .inr (11, [.ref (ma 1), .ref (ma 2), .int 0, .long 0, .long 1, .ref (ma 3), .ref (ma 4), .ref (ma 5), .ref (ma 6), .ref (ma 7), .int 0, .int 0, .int 0, .int 0, .int 0, .int 0, .int (-1), .int (-1), .int 0, .int 0, .int 0, .ref (ma 8), .int 0, .int 0, .int (-1), .int 0, .int 0, .int 0, .ref (ma 9), .int 0, .int 0, .ref (ma 10), .ref (ma 11), .ref (ma 12), .int 0, .int 0]))]) [0] rfl
      have hDc := hD.sub (ws' := [(ma 0, .inr (11, [.ref (ma 1), .ref (ma 2), .int 0, .long 0, .long 1, .ref (ma 3), .ref (ma 4), .ref (ma 5), .ref (ma 6), .ref (ma 7), .int 0, .int 0, .int 0, .int 0, .int 0, .int 0, .int (-1), .int (-1), .int 0, .int 0, .int 0, .ref (ma 8), .int 0, .int 0, .int (-1), .int 0, .int 0, .int 0, .ref (ma 9), .int 0, .int 0, .ref (ma 10), .ref (ma 11), .ref (ma 12), .int 0, .int 0]))]) [0] (by decide) rfl
      have hFc := va_free (wc := [(ma 0, .inr (11, [.ref (ma 1), .ref (ma 2), .int 0, .long 0, .long 1, .ref (ma 3), .ref (ma 4), .ref (ma 5), .ref (ma 6), .ref (ma 7), .int 0, .int 0, .int 0, .int 0, .int 0, .int 0, .int (-1), .int (-1), .int 0, .int 0, .int 0, .ref (ma 8), .int 0, .int 0, .int (-1), .int 0, .int 0, .int 0, .ref (ma 9), .int 0, .int 0, .ref (ma 10), .ref (ma 11), .ref (ma 12), .int 0, .int 0]))]) hD hS hA [0] rfl
      refine va_calli (va_runV (As := [.int 0]) (rest := []) ⟨hx, hb, hml, hown, hts⟩ (m_gives l D kc H.size ma 0 0 1 0 0 0 0 0 0 (-1) (-1) 0 0 0 0 0 (-1) 0 0 0 0 0 0 0 0) (cwV 1 hts gq_dearest_76_m_gives rfl rfl rfl (by decide +kernel) ⟨Nat.le_of_ble_eq_true rfl, Nat.le_of_ble_eq_true rfl⟩) (preV_ok hPc hDc hE (ci := 11) (q0 := 0) rfl rfl) rfl rfl hl.1 rfl (lv_room (Nat.le_of_ble_eq_true rfl)) dX12_dearest_41 ⟨Nat.le_of_ble_eq_true rfl, Nat.le_of_ble_eq_true rfl⟩) hS (fun q _ h => hFc q h) hFc (fun r_41_2 u9 t9 H locs ht hvm hw hB hz1 hk1 hS => ?_)
      obtain ⟨hP1, hD1⟩ := hB
      rw [ht] at hP1
      obtain ⟨hP, hD⟩ := va_join (wr := [(ma 1, .inl (kc 0, 2880, .inl at0))]) (w1 := [(ma 0, .inr (11, [.ref (ma 1), .ref (ma 2), .int 0, .long 0, .long 1, .ref (ma 3), .ref (ma 4), .ref (ma 5), .ref (ma 6), .ref (ma 7), .int 0, .int 0, .int 0, .int 0, .int 0, .int 0, .int (-1), .int (-1), .int 0, .int 0, .int 0, .ref (ma 8), .int 0, .int 0, .int (-1), .int 0, .int 0, .int 0, .ref (ma 9), .int 0, .int 0, .ref (ma 10), .ref (ma 11), .ref (ma 12), .int 0, .int 0]))]) hP hD [0] [1] rfl rfl (by decide) (by decide) hk1 hFc hP1 hD1
      have hP : va_P D vwCl [(ma 1, .inl (kc 0, 2880, .inl at0)), (ma 0, .inr (11, [.ref (ma 1), .ref (ma 2), .int 0, .long 0, .long 1, .ref (ma 3), .ref (ma 4), .ref (ma 5), .ref (ma 6), .ref (ma 7), .int 0, .int 0, .int 0, .int 0, .int 0, .int 0, .int (-1), .int (-1), .int 0, .int 0, .int 0, .ref (ma 8), .int 0, .int 0, .int (-1), .int 0, .int 0, .int 0, .ref (ma 9), .int 0, .int 0, .ref (ma 10), .ref (ma 11), .ref (ma 12), .int 0, .int 0]))] H := hP
      have hD : va_D A [(ma 1, .inl (kc 0, 2880, .inl at0)), (ma 0, .inr (11, [.ref (ma 1), .ref (ma 2), .int 0, .long 0, .long 1, .ref (ma 3), .ref (ma 4), .ref (ma 5), .ref (ma 6), .ref (ma 7), .int 0, .int 0, .int 0, .int 0, .int 0, .int 0, .int (-1), .int (-1), .int 0, .int 0, .int 0, .ref (ma 8), .int 0, .int 0, .int (-1), .int 0, .int 0, .int 0, .ref (ma 9), .int 0, .int 0, .ref (ma 10), .ref (ma 11), .ref (ma 12), .int 0, .int 0]))] := hD
      subst hw
      exact W.iret (v := 0) hx hb hr (fun t9 ht hW => ⟨⟨0, (), rfl, (dear_m c_9 c_24).elim, trivial⟩, hS.F ht⟩) hS.2.2 dX12_dearest_44
    · refine lv_aload_n hx hb dX12_dearest_27 rfl (lv_at hl 0 rfl) ?_
      refine lv_bipush (v := 6) hx hb dX12_dearest_28 (by decide) ?_
      have hPc := hP.sub (ws' := [(ma 0, .inr (11, [.ref (ma 1), .ref (ma 2), .int 0, .long 0, .long 1, .ref (ma 3), .ref (ma 4), .ref (ma 5), .ref (ma 6), .ref (ma 7), .int 0, .int 0, .int 0, .int 0, .int 0, .int 0, .int (-1), .int (-1), .int 0, .int 0, .int 0, .ref (ma 8), .int 0, .int 0, .int (-1), .int 0, .int 0, .int 0, .ref (ma 9), .int 0, .int 0, .ref (ma 10), .ref (ma 11), .ref (ma 12), .int 0, .int 0]))]) [0] rfl
      have hDc := hD.sub (ws' := [(ma 0, .inr (11, [.ref (ma 1), .ref (ma 2), .int 0, .long 0, .long 1, .ref (ma 3), .ref (ma 4), .ref (ma 5), .ref (ma 6), .ref (ma 7), .int 0, .int 0, .int 0, .int 0, .int 0, .int 0, .int (-1), .int (-1), .int 0, .int 0, .int 0, .ref (ma 8), .int 0, .int 0, .int (-1), .int 0, .int 0, .int 0, .ref (ma 9), .int 0, .int 0, .ref (ma 10), .ref (ma 11), .ref (ma 12), .int 0, .int 0]))]) [0] (by decide) rfl
      have hFc := va_free (wc := [(ma 0, .inr (11, [.ref (ma 1), .ref (ma 2), .int 0, .long 0, .long 1, .ref (ma 3), .ref (ma 4), .ref (ma 5), .ref (ma 6), .ref (ma 7), .int 0, .int 0, .int 0, .int 0, .int 0, .int 0, .int (-1), .int (-1), .int 0, .int 0, .int 0, .ref (ma 8), .int 0, .int 0, .int (-1), .int 0, .int 0, .int 0, .ref (ma 9), .int 0, .int 0, .ref (ma 10), .ref (ma 11), .ref (ma 12), .int 0, .int 0]))]) hD hS hA [0] rfl
      refine va_calli (va_runV (As := [.int 6]) (rest := []) ⟨hx, hb, hml, hown, hts⟩ (m_refuse l D kc H.size ma 0 0 1 0 0 0 0 0 0 (-1) (-1) 0 0 0 0 0 (-1) 0 0 0 0 0 0 0 6) (cwV 1 hts gq_dearest_72_m_refuse rfl rfl rfl (by decide +kernel) ⟨Nat.le_of_ble_eq_true rfl, Nat.le_of_ble_eq_true rfl⟩) (preV_ok hPc hDc hE (ci := 11) (q0 := 0) rfl rfl) rfl rfl hl.1 rfl (lv_room (Nat.le_of_ble_eq_true rfl)) dX12_dearest_30 ⟨Nat.le_of_ble_eq_true rfl, Nat.le_of_ble_eq_true rfl⟩) hS (fun q _ h => hFc q h) hFc (fun r_30_2 u9 t9 H locs ht hvm hw hB hz1 hk1 hS => ?_)
      obtain ⟨hP1, hD1⟩ := hB
      rw [ht] at hP1
      obtain ⟨hP, hD⟩ := va_join (wr := [(ma 1, .inl (kc 0, 2880, .inl at0))]) (w1 := [(ma 0, .inr (11, [.ref (ma 1), .ref (ma 2), .int 6, .long 0, .long 1, .ref (ma 3), .ref (ma 4), .ref (ma 5), .ref (ma 6), .ref (ma 7), .int 0, .int 0, .int 0, .int 0, .int 0, .int 0, .int (-1), .int (-1), .int 0, .int 0, .int 0, .ref (ma 8), .int 0, .int 0, .int (-1), .int 0, .int 0, .int 0, .ref (ma 9), .int 0, .int 0, .ref (ma 10), .ref (ma 11), .ref (ma 12), .int 0, .int 0]))]) hP hD [0] [1] rfl rfl (by decide) (by decide) hk1 hFc hP1 hD1
      have hP : va_P D vwCl [(ma 1, .inl (kc 0, 2880, .inl at0)), (ma 0, .inr (11, [.ref (ma 1), .ref (ma 2), .int 6, .long 0, .long 1, .ref (ma 3), .ref (ma 4), .ref (ma 5), .ref (ma 6), .ref (ma 7), .int 0, .int 0, .int 0, .int 0, .int 0, .int 0, .int (-1), .int (-1), .int 0, .int 0, .int 0, .ref (ma 8), .int 0, .int 0, .int (-1), .int 0, .int 0, .int 0, .ref (ma 9), .int 0, .int 0, .ref (ma 10), .ref (ma 11), .ref (ma 12), .int 0, .int 0]))] H := hP
      have hD : va_D A [(ma 1, .inl (kc 0, 2880, .inl at0)), (ma 0, .inr (11, [.ref (ma 1), .ref (ma 2), .int 6, .long 0, .long 1, .ref (ma 3), .ref (ma 4), .ref (ma 5), .ref (ma 6), .ref (ma 7), .int 0, .int 0, .int 0, .int 0, .int 0, .int 0, .int (-1), .int (-1), .int 0, .int 0, .int 0, .ref (ma 8), .int 0, .int 0, .int (-1), .int 0, .int 0, .int 0, .ref (ma 9), .int 0, .int 0, .ref (ma 10), .ref (ma 11), .ref (ma 12), .int 0, .int 0]))] := hD
      subst hw
      refine lv_goto (tgt := 44) hx hb dX12_dearest_33 (by decide) ?_
      exact W.iret (v := (-1)) hx hb hr (fun t9 ht hW => ⟨⟨(-1), (), rfl, rfl, trivial⟩, hS.F ht⟩) hS.2.2 dX12_dearest_44
  · refine lv_aload_n hx hb dX12_dearest_12 rfl (lv_at hl 0 rfl) ?_
    refine lv_iconst (v := 1) hx hb dX12_dearest_13 (by decide) ?_
    have hPc := hP.sub (ws' := [(ma 0, .inr (11, [.ref (ma 1), .ref (ma 2), .int 0, .long 0, .long 1, .ref (ma 3), .ref (ma 4), .ref (ma 5), .ref (ma 6), .ref (ma 7), .int 0, .int 0, .int 0, .int 0, .int 0, .int 0, .int (-1), .int (-1), .int 0, .int 0, .int 0, .ref (ma 8), .int 0, .int 0, .int (-1), .int 0, .int 0, .int 0, .ref (ma 9), .int 0, .int 0, .ref (ma 10), .ref (ma 11), .ref (ma 12), .int 0, .int 0]))]) [0] rfl
    have hDc := hD.sub (ws' := [(ma 0, .inr (11, [.ref (ma 1), .ref (ma 2), .int 0, .long 0, .long 1, .ref (ma 3), .ref (ma 4), .ref (ma 5), .ref (ma 6), .ref (ma 7), .int 0, .int 0, .int 0, .int 0, .int 0, .int 0, .int (-1), .int (-1), .int 0, .int 0, .int 0, .ref (ma 8), .int 0, .int 0, .int (-1), .int 0, .int 0, .int 0, .ref (ma 9), .int 0, .int 0, .ref (ma 10), .ref (ma 11), .ref (ma 12), .int 0, .int 0]))]) [0] (by decide) rfl
    have hFc := va_free (wc := [(ma 0, .inr (11, [.ref (ma 1), .ref (ma 2), .int 0, .long 0, .long 1, .ref (ma 3), .ref (ma 4), .ref (ma 5), .ref (ma 6), .ref (ma 7), .int 0, .int 0, .int 0, .int 0, .int 0, .int 0, .int (-1), .int (-1), .int 0, .int 0, .int 0, .ref (ma 8), .int 0, .int 0, .int (-1), .int 0, .int 0, .int 0, .ref (ma 9), .int 0, .int 0, .ref (ma 10), .ref (ma 11), .ref (ma 12), .int 0, .int 0]))]) hD hS hA [0] rfl
    refine va_calli (va_runV (As := [.int 1]) (rest := []) ⟨hx, hb, hml, hown, hts⟩ (m_refuse l D kc H.size ma 0 0 1 0 0 0 0 0 0 (-1) (-1) 0 0 0 0 0 (-1) 0 0 0 0 0 0 0 1) (cwV 1 hts gq_dearest_72_m_refuse rfl rfl rfl (by decide +kernel) ⟨Nat.le_of_ble_eq_true rfl, Nat.le_of_ble_eq_true rfl⟩) (preV_ok hPc hDc hE (ci := 11) (q0 := 0) rfl rfl) rfl rfl hl.1 rfl (lv_room (Nat.le_of_ble_eq_true rfl)) dX12_dearest_14 ⟨Nat.le_of_ble_eq_true rfl, Nat.le_of_ble_eq_true rfl⟩) hS (fun q _ h => hFc q h) hFc (fun r_14_2 u9 t9 H locs ht hvm hw hB hz1 hk1 hS => ?_)
    obtain ⟨hP1, hD1⟩ := hB
    rw [ht] at hP1
    obtain ⟨hP, hD⟩ := va_join (wr := [(ma 1, .inl (kc 0, 2880, .inl at0))]) (w1 := [(ma 0, .inr (11, [.ref (ma 1), .ref (ma 2), .int 1, .long 0, .long 1, .ref (ma 3), .ref (ma 4), .ref (ma 5), .ref (ma 6), .ref (ma 7), .int 0, .int 0, .int 0, .int 0, .int 0, .int 0, .int (-1), .int (-1), .int 0, .int 0, .int 0, .ref (ma 8), .int 0, .int 0, .int (-1), .int 0, .int 0, .int 0, .ref (ma 9), .int 0, .int 0, .ref (ma 10), .ref (ma 11), .ref (ma 12), .int 0, .int 0]))]) hP hD [0] [1] rfl rfl (by decide) (by decide) hk1 hFc hP1 hD1
    have hP : va_P D vwCl [(ma 1, .inl (kc 0, 2880, .inl at0)), (ma 0, .inr (11, [.ref (ma 1), .ref (ma 2), .int 1, .long 0, .long 1, .ref (ma 3), .ref (ma 4), .ref (ma 5), .ref (ma 6), .ref (ma 7), .int 0, .int 0, .int 0, .int 0, .int 0, .int 0, .int (-1), .int (-1), .int 0, .int 0, .int 0, .ref (ma 8), .int 0, .int 0, .int (-1), .int 0, .int 0, .int 0, .ref (ma 9), .int 0, .int 0, .ref (ma 10), .ref (ma 11), .ref (ma 12), .int 0, .int 0]))] H := hP
    have hD : va_D A [(ma 1, .inl (kc 0, 2880, .inl at0)), (ma 0, .inr (11, [.ref (ma 1), .ref (ma 2), .int 1, .long 0, .long 1, .ref (ma 3), .ref (ma 4), .ref (ma 5), .ref (ma 6), .ref (ma 7), .int 0, .int 0, .int 0, .int 0, .int 0, .int 0, .int (-1), .int (-1), .int 0, .int 0, .int 0, .ref (ma 8), .int 0, .int 0, .int (-1), .int 0, .int 0, .int 0, .ref (ma 9), .int 0, .int 0, .ref (ma 10), .ref (ma 11), .ref (ma 12), .int 0, .int 0]))] := hD
    subst hw
    exact W.iret (v := (-1)) hx hb hr (fun t9 ht hW => ⟨⟨(-1), (), rfl, rfl, trivial⟩, hS.F ht⟩) hS.2.2 dX12_dearest_17
theorem dX12_byteAt_0 : decode cX12_byteAt 0 = .ok (.iload_n 1, 1) := by decide +kernel
theorem dX12_byteAt_1 : decode cX12_byteAt 1 = .ok (.aload_n 0, 1) := by decide +kernel
theorem dX12_byteAt_2 : decode cX12_byteAt 2 = .ok (.getfield 102, 3) := by decide +kernel
theorem dX12_byteAt_5 : decode cX12_byteAt 5 = .ok (.if_icmp .ge 16, 3) := by decide +kernel
theorem dX12_byteAt_21 : decode cX12_byteAt 21 = .ok (.iconst (-1), 1) := by decide +kernel
theorem dX12_byteAt_22 : decode cX12_byteAt 22 = .ok (.ireturn, 1) := by decide +kernel
def vdm_byteAt : List Cond := [.code yX12_byteAt cX12_byteAt 2 (some .int), .fieldLink RX12 102 "SaltStreetModel" "size" "I"]
def vm_byteAt : List Cond := vdm_byteAt ++ (wsX120 ++ ([] : List Cond))
theorem im_byteAt_X12 : ∀ w ∈ wsX120, w ∈ vm_byteAt := fun _ h => List.mem_append_right _ (List.mem_append_left _ h)
set_option maxHeartbeats 4000000 in
set_option maxRecDepth 100000 in
theorem m_byteAt (l : Launch) (D : va_G) (kc : Nat → ClassId) (sz : Nat) (ma : Nat → Nat) : Met l yX12_byteAt vm_byteAt ({ frames := 0, cells := 0, slots := 0, locals := 0 }) (va_Pc [.ref (ma 0), .int 0] (wPre D kc [(ma 0, .inr (11, [.ref (ma 1), .ref (ma 2), .int 0, .long 0, .long 1, .ref (ma 3), .ref (ma 4), .ref (ma 5), .ref (ma 6), .ref (ma 7), .int 0, .int 0, .int 0, .int 0, .int 0, .int 0, .int (-1), .int (-1), .int 0, .int 0, .int 0, .ref (ma 8), .int 0, .int 0, .int (-1), .int 0, .int 0, .int 0, .ref (ma 9), .int 0, .int 0, .ref (ma 10), .ref (ma 11), .ref (ma 12), .int 0, .int 0]))] sz)) (va_Qi (fun (r : Int32) (_ : Unit) => r = (-1)) (wPost D [(ma 0, .inr (11, [.ref (ma 1), .ref (ma 2), .int 0, .long 0, .long 1, .ref (ma 3), .ref (ma 4), .ref (ma 5), .ref (ma 6), .ref (ma 7), .int 0, .int 0, .int 0, .int 0, .int 0, .int 0, .int (-1), .int (-1), .int 0, .int 0, .int 0, .ref (ma 8), .int 0, .int 0, .int (-1), .int 0, .int 0, .int 0, .ref (ma 9), .int 0, .int 0, .ref (ma 10), .ref (ma 11), .ref (ma 12), .int 0, .int 0]))] (va_A [(ma 0, .inr (11, [.ref (ma 1), .ref (ma 2), .int 0, .long 0, .long 1, .ref (ma 3), .ref (ma 4), .ref (ma 5), .ref (ma 6), .ref (ma 7), .int 0, .int 0, .int 0, .int 0, .int 0, .int 0, .int (-1), .int (-1), .int 0, .int 0, .int 0, .ref (ma 8), .int 0, .int 0, .int (-1), .int 0, .int 0, .int 0, .ref (ma 9), .int 0, .int 0, .ref (ma 10), .ref (ma 11), .ref (ma 12), .int 0, .int 0]))] sz)) (va_A [(ma 0, .inr (11, [.ref (ma 1), .ref (ma 2), .int 0, .long 0, .long 1, .ref (ma 3), .ref (ma 4), .ref (ma 5), .ref (ma 6), .ref (ma 7), .int 0, .int 0, .int 0, .int 0, .int 0, .int 0, .int (-1), .int (-1), .int 0, .int 0, .int 0, .ref (ma 8), .int 0, .int 0, .int (-1), .int 0, .int 0, .int 0, .ref (ma 9), .int 0, .int 0, .ref (ma 10), .ref (ma 11), .ref (ma 12), .int 0, .int 0]))] sz)) 0 0 (va_A [(ma 0, .inr (11, [.ref (ma 1), .ref (ma 2), .int 0, .long 0, .long 1, .ref (ma 3), .ref (ma 4), .ref (ma 5), .ref (ma 6), .ref (ma 7), .int 0, .int 0, .int 0, .int 0, .int 0, .int 0, .int (-1), .int (-1), .int 0, .int 0, .int 0, .ref (ma 8), .int 0, .int 0, .int (-1), .int 0, .int 0, .int 0, .ref (ma 9), .int 0, .int 0, .ref (ma 10), .ref (ma 11), .ref (ma 12), .int 0, .int 0]))] sz) := by
  refine Met.ofW (cc := cX12_byteAt) (maxL := 2) (ret := (some .int)) (by decide) rfl ?_
  intro p e s m args below meth c s₁ B hml hv
  obtain ⟨rfl, hsz, hP, hE, hD0⟩ := hv
  have hx := B.exec
  have hb := B.bytes
  have hr := B.returns
  have hts := atoms_spec (ws := vm_byteAt) B.pre
  have hown : s.vm.findClass RX12 = some m.cls := findClass_of_methodNamed B.named
  have hlocks := B.notSynchronized
  subst hsz
  have hD := hD0.self (sz := s.heap.size)
  generalize hAe : va_A [(ma 0, .inr (11, [.ref (ma 1), .ref (ma 2), .int 0, .long 0, .long 1, .ref (ma 3), .ref (ma 4), .ref (ma 5), .ref (ma 6), .ref (ma 7), .int 0, .int 0, .int 0, .int 0, .int 0, .int 0, .int (-1), .int (-1), .int 0, .int 0, .int 0, .ref (ma 8), .int 0, .int 0, .int (-1), .int 0, .int 0, .int 0, .ref (ma 9), .int 0, .int 0, .ref (ma 10), .ref (ma 11), .ref (ma 12), .int 0, .int 0]))] s.heap.size = A at hD ⊢
  have hA : ∀ q : Nat, s.heap.size ≤ q → A q := fun q h => by rw [← hAe]; exact Or.inr h
  have hS : va_S A s.heap s.heap [] := va_S.rf
  have hK := hE.1
  have hP : va_P D vwCl [(ma 0, .inr (11, [.ref (ma 1), .ref (ma 2), .int 0, .long 0, .long 1, .ref (ma 3), .ref (ma 4), .ref (ma 5), .ref (ma 6), .ref (ma 7), .int 0, .int 0, .int 0, .int 0, .int 0, .int 0, .int (-1), .int (-1), .int 0, .int 0, .int 0, .ref (ma 8), .int 0, .int 0, .int (-1), .int 0, .int 0, .int 0, .ref (ma 9), .int 0, .int 0, .ref (ma 10), .ref (ma 11), .ref (ma 12), .int 0, .int 0]))] s.heap := hP
  have hl := lv_entry ([.ref (ma 0), .int 0]) (n := 2) (Nat.le_of_ble_eq_true rfl)
  rw [lg_entry_eq]
  generalize (lg_sl ([.ref (ma 0), .int 0]) ++ List.replicate (2 - (lg_sl ([.ref (ma 0), .int 0])).length) Slot.unset).toArray = ls at hl ⊢
  have hl : lv_has ls 2 [(0, .ref (ma 0)), (1, .int 0)] := hl
  refine lv_iload_n hx hb dX12_byteAt_0 rfl (lv_at hl 1 rfl) ?_
  refine lv_aload_n hx hb dX12_byteAt_1 rfl (lv_at hl 0 rfl) ?_
  refine va_get (D := D) (ci := 11) (v := .int 0) (C := RX12) (T := TX12) (N := 36) hx hb hts im_byteAt_X12 hown hK hP 0 rfl rfl 11 (by decide) (hts (.fieldLink RX12 102 "SaltStreetModel" "size" "I") (List.mem_of_getElem? (i := 1) rfl)) (fun _ h9 => h9) rfl dX12_byteAt_2 ?_
  refine lv_icmp_ge (tgt := 21) hx hb dX12_byteAt_5 (by decide) (fun _ => ?_) (fun h => absurd (by decide) h)
  refine lv_iconst (v := (-1)) hx hb dX12_byteAt_21 (by decide) ?_
  have hP9 := hP.sub (ws' := [(ma 0, .inr (11, [.ref (ma 1), .ref (ma 2), .int 0, .long 0, .long 1, .ref (ma 3), .ref (ma 4), .ref (ma 5), .ref (ma 6), .ref (ma 7), .int 0, .int 0, .int 0, .int 0, .int 0, .int 0, .int (-1), .int (-1), .int 0, .int 0, .int 0, .ref (ma 8), .int 0, .int 0, .int (-1), .int 0, .int 0, .int 0, .ref (ma 9), .int 0, .int 0, .ref (ma 10), .ref (ma 11), .ref (ma 12), .int 0, .int 0]))]) [0] rfl
  have hD9 := hD.sub (ws' := [(ma 0, .inr (11, [.ref (ma 1), .ref (ma 2), .int 0, .long 0, .long 1, .ref (ma 3), .ref (ma 4), .ref (ma 5), .ref (ma 6), .ref (ma 7), .int 0, .int 0, .int 0, .int 0, .int 0, .int 0, .int (-1), .int (-1), .int 0, .int 0, .int 0, .ref (ma 8), .int 0, .int 0, .int (-1), .int 0, .int 0, .int 0, .ref (ma 9), .int 0, .int 0, .ref (ma 10), .ref (ma 11), .ref (ma 12), .int 0, .int 0]))]) [0] (by decide) rfl
  exact W.iret (v := (-1)) hx hb hr (fun t9 ht hW => ⟨⟨(-1), (), rfl, rfl, ⟨by rw [ht]; exact hP9, hD9⟩⟩, hS.F ht⟩) hS.2.2 dX12_byteAt_22
theorem dX12_ahead_0 : decode cX12_ahead 0 = .ok (.aload_n 0, 1) := by decide +kernel
theorem dX12_ahead_1 : decode cX12_ahead 1 = .ok (.aload_n 0, 1) := by decide +kernel
theorem dX12_ahead_2 : decode cX12_ahead 2 = .ok (.getfield 105, 3) := by decide +kernel
theorem dX12_ahead_5 : decode cX12_ahead 5 = .ok (.invokevirtual 108, 3) := by decide +kernel
theorem dX12_ahead_8 : decode cX12_ahead 8 = .ok (.bipush 32, 2) := by decide +kernel
theorem dX12_ahead_10 : decode cX12_ahead 10 = .ok (.if_icmp .eq 16, 3) := by decide +kernel
theorem dX12_ahead_13 : decode cX12_ahead 13 = .ok (.aload_n 0, 1) := by decide +kernel
theorem dX12_ahead_14 : decode cX12_ahead 14 = .ok (.aload_n 0, 1) := by decide +kernel
theorem dX12_ahead_15 : decode cX12_ahead 15 = .ok (.getfield 105, 3) := by decide +kernel
theorem dX12_ahead_18 : decode cX12_ahead 18 = .ok (.invokevirtual 108, 3) := by decide +kernel
theorem dX12_ahead_21 : decode cX12_ahead 21 = .ok (.bipush 10, 2) := by decide +kernel
theorem dX12_ahead_23 : decode cX12_ahead 23 = .ok (.if_icmp .ne 16, 3) := by decide +kernel
theorem dX12_ahead_39 : decode cX12_ahead 39 = .ok (.aload_n 0, 1) := by decide +kernel
theorem dX12_ahead_40 : decode cX12_ahead 40 = .ok (.aload_n 0, 1) := by decide +kernel
theorem dX12_ahead_41 : decode cX12_ahead 41 = .ok (.getfield 105, 3) := by decide +kernel
theorem dX12_ahead_44 : decode cX12_ahead 44 = .ok (.putfield 111, 3) := by decide +kernel
theorem dX12_ahead_47 : decode cX12_ahead 47 = .ok (.aload_n 0, 1) := by decide +kernel
theorem dX12_ahead_48 : decode cX12_ahead 48 = .ok (.aload_n 0, 1) := by decide +kernel
theorem dX12_ahead_49 : decode cX12_ahead 49 = .ok (.getfield 105, 3) := by decide +kernel
theorem dX12_ahead_52 : decode cX12_ahead 52 = .ok (.invokevirtual 108, 3) := by decide +kernel
theorem dX12_ahead_55 : decode cX12_ahead 55 = .ok (.istore_n 1, 1) := by decide +kernel
theorem dX12_ahead_56 : decode cX12_ahead 56 = .ok (.aload_n 0, 1) := by decide +kernel
theorem dX12_ahead_57 : decode cX12_ahead 57 = .ok (.iload_n 1, 1) := by decide +kernel
theorem dX12_ahead_58 : decode cX12_ahead 58 = .ok (.putfield 114, 3) := by decide +kernel
theorem dX12_ahead_61 : decode cX12_ahead 61 = .ok (.iload_n 1, 1) := by decide +kernel
theorem dX12_ahead_62 : decode cX12_ahead 62 = .ok (.iconst (-1), 1) := by decide +kernel
theorem dX12_ahead_63 : decode cX12_ahead 63 = .ok (.if_icmp .ne 11, 3) := by decide +kernel
theorem dX12_ahead_66 : decode cX12_ahead 66 = .ok (.aload_n 0, 1) := by decide +kernel
theorem dX12_ahead_67 : decode cX12_ahead 67 = .ok (.iconst 0, 1) := by decide +kernel
theorem dX12_ahead_68 : decode cX12_ahead 68 = .ok (.putfield 117, 3) := by decide +kernel
theorem dX12_ahead_71 : decode cX12_ahead 71 = .ok (.goto 180, 3) := by decide +kernel
theorem dX12_ahead_251 : decode cX12_ahead 251 = .ok (.return_, 1) := by decide +kernel
def vdm_ahead : List Cond := [.code yX12_ahead cX12_ahead 2 none, .fieldLink RX12 105 "SaltStreetModel" "end" "I", .methodLink RX12 108 yX12_byteAt, .code yX12_byteAt cX12_byteAt 2 (some .int), .fieldLink RX12 102 "SaltStreetModel" "size" "I", .instanceMethod yX12_byteAt, .selects RX12 yX12_byteAt yX12_byteAt, .initialized RX12, .fieldLink RX12 111 "SaltStreetModel" "from" "I", .fieldLink RX12 114 "SaltStreetModel" "value" "I", .fieldLink RX12 117 "SaltStreetModel" "token" "I"]
def vm_ahead : List Cond := vdm_ahead ++ (wsX120 ++ ([] : List Cond))
theorem im_ahead_X12 : ∀ w ∈ wsX120, w ∈ vm_ahead := fun _ h => List.mem_append_right _ (List.mem_append_left _ h)
set_option maxRecDepth 20000 in
theorem gm_ahead_108_m_byteAt : GoodIn vm_ahead (wsV RX12 108 RX12 yX12_byteAt vm_byteAt) := (goodIn_app (goodIn_r _ [2, 5, 6, 7] rfl (by decide +kernel)) (goodIn_app (goodIn_r vdm_byteAt [3, 4] rfl (by decide +kernel)) (goodIn_app (goodIn_sub im_ahead_X12 gdX12) goodIn_nil)))
set_option maxHeartbeats 4000000 in
set_option maxRecDepth 100000 in
theorem m_ahead (l : Launch) (D : va_G) (kc : Nat → ClassId) (sz : Nat) (ma : Nat → Nat) : Met l yX12_ahead vm_ahead ({ frames := 1, cells := 0, slots := 0, locals := 21 }) (va_Pc [.ref (ma 0)] (wPre D kc [(ma 0, .inr (11, [.ref (ma 1), .ref (ma 2), .int 0, .long 0, .long 1, .ref (ma 3), .ref (ma 4), .ref (ma 5), .ref (ma 6), .ref (ma 7), .int 0, .int 0, .int 0, .int 0, .int 0, .int 0, .int (-1), .int (-1), .int 0, .int 0, .int 0, .ref (ma 8), .int 0, .int 0, .int (-1), .int 0, .int 0, .int 0, .ref (ma 9), .int 0, .int 0, .ref (ma 10), .ref (ma 11), .ref (ma 12), .int 0, .int 0]))] sz)) (va_Qv (fun (_ : Unit) => True) (wPost D [(ma 0, .inr (11, [.ref (ma 1), .ref (ma 2), .int 0, .long 0, .long 1, .ref (ma 3), .ref (ma 4), .ref (ma 5), .ref (ma 6), .ref (ma 7), .int 0, .int 0, .int 0, .int 0, .int 0, .int (-1), .int (-1), .int (-1), .int 0, .int 0, .int 0, .ref (ma 8), .int 0, .int 0, .int (-1), .int 0, .int 0, .int 0, .ref (ma 9), .int 0, .int 0, .ref (ma 10), .ref (ma 11), .ref (ma 12), .int 0, .int 0]))] (va_A [(ma 0, .inr (11, [.ref (ma 1), .ref (ma 2), .int 0, .long 0, .long 1, .ref (ma 3), .ref (ma 4), .ref (ma 5), .ref (ma 6), .ref (ma 7), .int 0, .int 0, .int 0, .int 0, .int 0, .int 0, .int (-1), .int (-1), .int 0, .int 0, .int 0, .ref (ma 8), .int 0, .int 0, .int (-1), .int 0, .int 0, .int 0, .ref (ma 9), .int 0, .int 0, .ref (ma 10), .ref (ma 11), .ref (ma 12), .int 0, .int 0]))] sz)) (va_A [(ma 0, .inr (11, [.ref (ma 1), .ref (ma 2), .int 0, .long 0, .long 1, .ref (ma 3), .ref (ma 4), .ref (ma 5), .ref (ma 6), .ref (ma 7), .int 0, .int 0, .int 0, .int 0, .int 0, .int 0, .int (-1), .int (-1), .int 0, .int 0, .int 0, .ref (ma 8), .int 0, .int 0, .int (-1), .int 0, .int 0, .int 0, .ref (ma 9), .int 0, .int 0, .ref (ma 10), .ref (ma 11), .ref (ma 12), .int 0, .int 0]))] sz)) 0 0 (va_A [(ma 0, .inr (11, [.ref (ma 1), .ref (ma 2), .int 0, .long 0, .long 1, .ref (ma 3), .ref (ma 4), .ref (ma 5), .ref (ma 6), .ref (ma 7), .int 0, .int 0, .int 0, .int 0, .int 0, .int 0, .int (-1), .int (-1), .int 0, .int 0, .int 0, .ref (ma 8), .int 0, .int 0, .int (-1), .int 0, .int 0, .int 0, .ref (ma 9), .int 0, .int 0, .ref (ma 10), .ref (ma 11), .ref (ma 12), .int 0, .int 0]))] sz) := by
  refine Met.ofW (cc := cX12_ahead) (maxL := 2) (ret := none) (by decide) rfl ?_
  intro p e s m args below meth c s₁ B hml hv
  obtain ⟨rfl, hsz, hP, hE, hD0⟩ := hv
  have hx := B.exec
  have hb := B.bytes
  have hr := B.returns
  have hts := atoms_spec (ws := vm_ahead) B.pre
  have hown : s.vm.findClass RX12 = some m.cls := findClass_of_methodNamed B.named
  have hlocks := B.notSynchronized
  subst hsz
  have hD := hD0.self (sz := s.heap.size)
  generalize hAe : va_A [(ma 0, .inr (11, [.ref (ma 1), .ref (ma 2), .int 0, .long 0, .long 1, .ref (ma 3), .ref (ma 4), .ref (ma 5), .ref (ma 6), .ref (ma 7), .int 0, .int 0, .int 0, .int 0, .int 0, .int 0, .int (-1), .int (-1), .int 0, .int 0, .int 0, .ref (ma 8), .int 0, .int 0, .int (-1), .int 0, .int 0, .int 0, .ref (ma 9), .int 0, .int 0, .ref (ma 10), .ref (ma 11), .ref (ma 12), .int 0, .int 0]))] s.heap.size = A at hD ⊢
  have hA : ∀ q : Nat, s.heap.size ≤ q → A q := fun q h => by rw [← hAe]; exact Or.inr h
  have hS : va_S A s.heap s.heap [] := va_S.rf
  have hK := hE.1
  have hP : va_P D vwCl [(ma 0, .inr (11, [.ref (ma 1), .ref (ma 2), .int 0, .long 0, .long 1, .ref (ma 3), .ref (ma 4), .ref (ma 5), .ref (ma 6), .ref (ma 7), .int 0, .int 0, .int 0, .int 0, .int 0, .int 0, .int (-1), .int (-1), .int 0, .int 0, .int 0, .ref (ma 8), .int 0, .int 0, .int (-1), .int 0, .int 0, .int 0, .ref (ma 9), .int 0, .int 0, .ref (ma 10), .ref (ma 11), .ref (ma 12), .int 0, .int 0]))] s.heap := hP
  have hl := lv_entry ([.ref (ma 0)]) (n := 2) (Nat.le_of_ble_eq_true rfl)
  rw [lg_entry_eq]
  generalize (lg_sl ([.ref (ma 0)]) ++ List.replicate (2 - (lg_sl ([.ref (ma 0)])).length) Slot.unset).toArray = ls at hl ⊢
  have hl : lv_has ls 2 [(0, .ref (ma 0))] := hl
  refine lv_aload_n hx hb dX12_ahead_0 rfl (lv_at hl 0 rfl) ?_
  refine lv_aload_n hx hb dX12_ahead_1 rfl (lv_at hl 0 rfl) ?_
  refine va_get (D := D) (ci := 11) (v := .int 0) (C := RX12) (T := TX12) (N := 36) hx hb hts im_ahead_X12 hown hK hP 0 rfl rfl 14 (by decide) (hts (.fieldLink RX12 105 "SaltStreetModel" "end" "I") (List.mem_of_getElem? (i := 1) rfl)) (fun _ h9 => h9) rfl dX12_ahead_2 ?_
  have hPc := hP.sub (ws' := [(ma 0, .inr (11, [.ref (ma 1), .ref (ma 2), .int 0, .long 0, .long 1, .ref (ma 3), .ref (ma 4), .ref (ma 5), .ref (ma 6), .ref (ma 7), .int 0, .int 0, .int 0, .int 0, .int 0, .int 0, .int (-1), .int (-1), .int 0, .int 0, .int 0, .ref (ma 8), .int 0, .int 0, .int (-1), .int 0, .int 0, .int 0, .ref (ma 9), .int 0, .int 0, .ref (ma 10), .ref (ma 11), .ref (ma 12), .int 0, .int 0]))]) [0] rfl
  have hDc := hD.sub (ws' := [(ma 0, .inr (11, [.ref (ma 1), .ref (ma 2), .int 0, .long 0, .long 1, .ref (ma 3), .ref (ma 4), .ref (ma 5), .ref (ma 6), .ref (ma 7), .int 0, .int 0, .int 0, .int 0, .int 0, .int 0, .int (-1), .int (-1), .int 0, .int 0, .int 0, .ref (ma 8), .int 0, .int 0, .int (-1), .int 0, .int 0, .int 0, .ref (ma 9), .int 0, .int 0, .ref (ma 10), .ref (ma 11), .ref (ma 12), .int 0, .int 0]))]) [0] (by decide) rfl
  have hFc := va_free (wc := [(ma 0, .inr (11, [.ref (ma 1), .ref (ma 2), .int 0, .long 0, .long 1, .ref (ma 3), .ref (ma 4), .ref (ma 5), .ref (ma 6), .ref (ma 7), .int 0, .int 0, .int 0, .int 0, .int 0, .int 0, .int (-1), .int (-1), .int 0, .int 0, .int 0, .ref (ma 8), .int 0, .int 0, .int (-1), .int 0, .int 0, .int 0, .ref (ma 9), .int 0, .int 0, .ref (ma 10), .ref (ma 11), .ref (ma 12), .int 0, .int 0]))]) hD hS hA [0] rfl
  refine va_calli (va_runV (As := [.int 0]) (rest := []) ⟨hx, hb, hml, hown, hts⟩ (m_byteAt l D kc s.heap.size ma) (cwV 1 hts gm_ahead_108_m_byteAt rfl rfl rfl (by decide +kernel) ⟨Nat.le_of_ble_eq_true rfl, Nat.le_of_ble_eq_true rfl⟩) (preV_ok hPc hDc hE (ci := 11) (q0 := 0) rfl rfl) rfl rfl hl.1 rfl (lv_room (Nat.le_of_ble_eq_true rfl)) dX12_ahead_5 ⟨Nat.le_of_ble_eq_true rfl, Nat.le_of_ble_eq_true rfl⟩) hS (fun q _ h => hFc q h) hFc (fun r_5 u9 t9 H locs ht hvm hw hB hz1 hk1 hS => ?_)
  obtain ⟨hP1, hD1⟩ := hB
  rw [ht] at hP1
  obtain ⟨hP, hD⟩ := va_join (wr := []) (w1 := [(ma 0, .inr (11, [.ref (ma 1), .ref (ma 2), .int 0, .long 0, .long 1, .ref (ma 3), .ref (ma 4), .ref (ma 5), .ref (ma 6), .ref (ma 7), .int 0, .int 0, .int 0, .int 0, .int 0, .int 0, .int (-1), .int (-1), .int 0, .int 0, .int 0, .ref (ma 8), .int 0, .int 0, .int (-1), .int 0, .int 0, .int 0, .ref (ma 9), .int 0, .int 0, .ref (ma 10), .ref (ma 11), .ref (ma 12), .int 0, .int 0]))]) hP hD [0] [] rfl rfl (by decide) (by decide) hk1 hFc hP1 hD1
  have hP : va_P D vwCl [(ma 0, .inr (11, [.ref (ma 1), .ref (ma 2), .int 0, .long 0, .long 1, .ref (ma 3), .ref (ma 4), .ref (ma 5), .ref (ma 6), .ref (ma 7), .int 0, .int 0, .int 0, .int 0, .int 0, .int 0, .int (-1), .int (-1), .int 0, .int 0, .int 0, .ref (ma 8), .int 0, .int 0, .int (-1), .int 0, .int 0, .int 0, .ref (ma 9), .int 0, .int 0, .ref (ma 10), .ref (ma 11), .ref (ma 12), .int 0, .int 0]))] H := hP
  have hD : va_D A [(ma 0, .inr (11, [.ref (ma 1), .ref (ma 2), .int 0, .long 0, .long 1, .ref (ma 3), .ref (ma 4), .ref (ma 5), .ref (ma 6), .ref (ma 7), .int 0, .int 0, .int 0, .int 0, .int 0, .int 0, .int (-1), .int (-1), .int 0, .int 0, .int 0, .ref (ma 8), .int 0, .int 0, .int (-1), .int 0, .int 0, .int 0, .ref (ma 9), .int 0, .int 0, .ref (ma 10), .ref (ma 11), .ref (ma 12), .int 0, .int 0]))] := hD
  subst hw
  refine lv_bipush (v := 32) hx hb dX12_ahead_8 (by decide) ?_
  refine lv_icmp_eq (tgt := 26) hx hb dX12_ahead_10 (by decide) (fun h => absurd h (by decide)) (fun _ => ?_)
  refine lv_aload_n hx hb dX12_ahead_13 rfl (lv_at hl 0 rfl) ?_
  refine lv_aload_n hx hb dX12_ahead_14 rfl (lv_at hl 0 rfl) ?_
  refine va_get (D := D) (ci := 11) (v := .int 0) (C := RX12) (T := TX12) (N := 36) hx hb hts im_ahead_X12 hown hK hP 0 rfl rfl 14 (by decide) (hts (.fieldLink RX12 105 "SaltStreetModel" "end" "I") (List.mem_of_getElem? (i := 1) rfl)) (fun _ h9 => h9) rfl dX12_ahead_15 ?_
  have hPc := hP.sub (ws' := [(ma 0, .inr (11, [.ref (ma 1), .ref (ma 2), .int 0, .long 0, .long 1, .ref (ma 3), .ref (ma 4), .ref (ma 5), .ref (ma 6), .ref (ma 7), .int 0, .int 0, .int 0, .int 0, .int 0, .int 0, .int (-1), .int (-1), .int 0, .int 0, .int 0, .ref (ma 8), .int 0, .int 0, .int (-1), .int 0, .int 0, .int 0, .ref (ma 9), .int 0, .int 0, .ref (ma 10), .ref (ma 11), .ref (ma 12), .int 0, .int 0]))]) [0] rfl
  have hDc := hD.sub (ws' := [(ma 0, .inr (11, [.ref (ma 1), .ref (ma 2), .int 0, .long 0, .long 1, .ref (ma 3), .ref (ma 4), .ref (ma 5), .ref (ma 6), .ref (ma 7), .int 0, .int 0, .int 0, .int 0, .int 0, .int 0, .int (-1), .int (-1), .int 0, .int 0, .int 0, .ref (ma 8), .int 0, .int 0, .int (-1), .int 0, .int 0, .int 0, .ref (ma 9), .int 0, .int 0, .ref (ma 10), .ref (ma 11), .ref (ma 12), .int 0, .int 0]))]) [0] (by decide) rfl
  have hFc := va_free (wc := [(ma 0, .inr (11, [.ref (ma 1), .ref (ma 2), .int 0, .long 0, .long 1, .ref (ma 3), .ref (ma 4), .ref (ma 5), .ref (ma 6), .ref (ma 7), .int 0, .int 0, .int 0, .int 0, .int 0, .int 0, .int (-1), .int (-1), .int 0, .int 0, .int 0, .ref (ma 8), .int 0, .int 0, .int (-1), .int 0, .int 0, .int 0, .ref (ma 9), .int 0, .int 0, .ref (ma 10), .ref (ma 11), .ref (ma 12), .int 0, .int 0]))]) hD hS hA [0] rfl
  refine va_calli (va_runV (As := [.int 0]) (rest := []) ⟨hx, hb, hml, hown, hts⟩ (m_byteAt l D kc H.size ma) (cwV 1 hts gm_ahead_108_m_byteAt rfl rfl rfl (by decide +kernel) ⟨Nat.le_of_ble_eq_true rfl, Nat.le_of_ble_eq_true rfl⟩) (preV_ok hPc hDc hE (ci := 11) (q0 := 0) rfl rfl) rfl rfl hl.1 rfl (lv_room (Nat.le_of_ble_eq_true rfl)) dX12_ahead_18 ⟨Nat.le_of_ble_eq_true rfl, Nat.le_of_ble_eq_true rfl⟩) hS (fun q _ h => hFc q h) hFc (fun r_18 u9 t9 H locs ht hvm hw hB hz1 hk1 hS => ?_)
  obtain ⟨hP1, hD1⟩ := hB
  rw [ht] at hP1
  obtain ⟨hP, hD⟩ := va_join (wr := []) (w1 := [(ma 0, .inr (11, [.ref (ma 1), .ref (ma 2), .int 0, .long 0, .long 1, .ref (ma 3), .ref (ma 4), .ref (ma 5), .ref (ma 6), .ref (ma 7), .int 0, .int 0, .int 0, .int 0, .int 0, .int 0, .int (-1), .int (-1), .int 0, .int 0, .int 0, .ref (ma 8), .int 0, .int 0, .int (-1), .int 0, .int 0, .int 0, .ref (ma 9), .int 0, .int 0, .ref (ma 10), .ref (ma 11), .ref (ma 12), .int 0, .int 0]))]) hP hD [0] [] rfl rfl (by decide) (by decide) hk1 hFc hP1 hD1
  have hP : va_P D vwCl [(ma 0, .inr (11, [.ref (ma 1), .ref (ma 2), .int 0, .long 0, .long 1, .ref (ma 3), .ref (ma 4), .ref (ma 5), .ref (ma 6), .ref (ma 7), .int 0, .int 0, .int 0, .int 0, .int 0, .int 0, .int (-1), .int (-1), .int 0, .int 0, .int 0, .ref (ma 8), .int 0, .int 0, .int (-1), .int 0, .int 0, .int 0, .ref (ma 9), .int 0, .int 0, .ref (ma 10), .ref (ma 11), .ref (ma 12), .int 0, .int 0]))] H := hP
  have hD : va_D A [(ma 0, .inr (11, [.ref (ma 1), .ref (ma 2), .int 0, .long 0, .long 1, .ref (ma 3), .ref (ma 4), .ref (ma 5), .ref (ma 6), .ref (ma 7), .int 0, .int 0, .int 0, .int 0, .int 0, .int 0, .int (-1), .int (-1), .int 0, .int 0, .int 0, .ref (ma 8), .int 0, .int 0, .int (-1), .int 0, .int 0, .int 0, .ref (ma 9), .int 0, .int 0, .ref (ma 10), .ref (ma 11), .ref (ma 12), .int 0, .int 0]))] := hD
  subst hw
  refine lv_bipush (v := 10) hx hb dX12_ahead_21 (by decide) ?_
  refine lv_icmp_ne (tgt := 39) hx hb dX12_ahead_23 (by decide) (fun _ => ?_) (fun h => absurd h (by decide))
  refine lv_aload_n hx hb dX12_ahead_39 rfl (lv_at hl 0 rfl) ?_
  refine lv_aload_n hx hb dX12_ahead_40 rfl (lv_at hl 0 rfl) ?_
  refine va_get (D := D) (ci := 11) (v := .int 0) (C := RX12) (T := TX12) (N := 36) hx hb hts im_ahead_X12 hown hK hP 0 rfl rfl 14 (by decide) (hts (.fieldLink RX12 105 "SaltStreetModel" "end" "I") (List.mem_of_getElem? (i := 1) rfl)) (fun _ h9 => h9) rfl dX12_ahead_41 ?_
  refine va_put (D := D) (ci := 11) (v := .int 0) (ty := .int) (C := RX12) (T := TX12) (N := 36) hx hb hts im_ahead_X12 tyX12 tyX12_ok nmX12 hown hK hP hD hS 0 rfl rfl 13 (by decide) (hts (.fieldLink RX12 111 "SaltStreetModel" "from" "I") (List.mem_of_getElem? (i := 8) rfl)) (fun _ h9 => h9) rfl (by decide +kernel) rfl rfl (Nat.le_of_ble_eq_true rfl) dX12_ahead_44 (fun H locs hP hD hS => ?_)
  have hP : va_P D vwCl [(ma 0, .inr (11, [.ref (ma 1), .ref (ma 2), .int 0, .long 0, .long 1, .ref (ma 3), .ref (ma 4), .ref (ma 5), .ref (ma 6), .ref (ma 7), .int 0, .int 0, .int 0, .int 0, .int 0, .int 0, .int (-1), .int (-1), .int 0, .int 0, .int 0, .ref (ma 8), .int 0, .int 0, .int (-1), .int 0, .int 0, .int 0, .ref (ma 9), .int 0, .int 0, .ref (ma 10), .ref (ma 11), .ref (ma 12), .int 0, .int 0]))] H := hP
  have hD : va_D A [(ma 0, .inr (11, [.ref (ma 1), .ref (ma 2), .int 0, .long 0, .long 1, .ref (ma 3), .ref (ma 4), .ref (ma 5), .ref (ma 6), .ref (ma 7), .int 0, .int 0, .int 0, .int 0, .int 0, .int 0, .int (-1), .int (-1), .int 0, .int 0, .int 0, .ref (ma 8), .int 0, .int 0, .int (-1), .int 0, .int 0, .int 0, .ref (ma 9), .int 0, .int 0, .ref (ma 10), .ref (ma 11), .ref (ma 12), .int 0, .int 0]))] := hD
  refine lv_aload_n hx hb dX12_ahead_47 rfl (lv_at hl 0 rfl) ?_
  refine lv_aload_n hx hb dX12_ahead_48 rfl (lv_at hl 0 rfl) ?_
  refine va_get (D := D) (ci := 11) (v := .int 0) (C := RX12) (T := TX12) (N := 36) hx hb hts im_ahead_X12 hown hK hP 0 rfl rfl 14 (by decide) (hts (.fieldLink RX12 105 "SaltStreetModel" "end" "I") (List.mem_of_getElem? (i := 1) rfl)) (fun _ h9 => h9) rfl dX12_ahead_49 ?_
  have hPc := hP.sub (ws' := [(ma 0, .inr (11, [.ref (ma 1), .ref (ma 2), .int 0, .long 0, .long 1, .ref (ma 3), .ref (ma 4), .ref (ma 5), .ref (ma 6), .ref (ma 7), .int 0, .int 0, .int 0, .int 0, .int 0, .int 0, .int (-1), .int (-1), .int 0, .int 0, .int 0, .ref (ma 8), .int 0, .int 0, .int (-1), .int 0, .int 0, .int 0, .ref (ma 9), .int 0, .int 0, .ref (ma 10), .ref (ma 11), .ref (ma 12), .int 0, .int 0]))]) [0] rfl
  have hDc := hD.sub (ws' := [(ma 0, .inr (11, [.ref (ma 1), .ref (ma 2), .int 0, .long 0, .long 1, .ref (ma 3), .ref (ma 4), .ref (ma 5), .ref (ma 6), .ref (ma 7), .int 0, .int 0, .int 0, .int 0, .int 0, .int 0, .int (-1), .int (-1), .int 0, .int 0, .int 0, .ref (ma 8), .int 0, .int 0, .int (-1), .int 0, .int 0, .int 0, .ref (ma 9), .int 0, .int 0, .ref (ma 10), .ref (ma 11), .ref (ma 12), .int 0, .int 0]))]) [0] (by decide) rfl
  have hFc := va_free (wc := [(ma 0, .inr (11, [.ref (ma 1), .ref (ma 2), .int 0, .long 0, .long 1, .ref (ma 3), .ref (ma 4), .ref (ma 5), .ref (ma 6), .ref (ma 7), .int 0, .int 0, .int 0, .int 0, .int 0, .int 0, .int (-1), .int (-1), .int 0, .int 0, .int 0, .ref (ma 8), .int 0, .int 0, .int (-1), .int 0, .int 0, .int 0, .ref (ma 9), .int 0, .int 0, .ref (ma 10), .ref (ma 11), .ref (ma 12), .int 0, .int 0]))]) hD hS hA [0] rfl
  refine va_calli (va_runV (As := [.int 0]) (rest := []) ⟨hx, hb, hml, hown, hts⟩ (m_byteAt l D kc H.size ma) (cwV 1 hts gm_ahead_108_m_byteAt rfl rfl rfl (by decide +kernel) ⟨Nat.le_of_ble_eq_true rfl, Nat.le_of_ble_eq_true rfl⟩) (preV_ok hPc hDc hE (ci := 11) (q0 := 0) rfl rfl) rfl rfl hl.1 rfl (lv_room (Nat.le_of_ble_eq_true rfl)) dX12_ahead_52 ⟨Nat.le_of_ble_eq_true rfl, Nat.le_of_ble_eq_true rfl⟩) hS (fun q _ h => hFc q h) hFc (fun r_52 u9 t9 H locs ht hvm hw hB hz1 hk1 hS => ?_)
  obtain ⟨hP1, hD1⟩ := hB
  rw [ht] at hP1
  obtain ⟨hP, hD⟩ := va_join (wr := []) (w1 := [(ma 0, .inr (11, [.ref (ma 1), .ref (ma 2), .int 0, .long 0, .long 1, .ref (ma 3), .ref (ma 4), .ref (ma 5), .ref (ma 6), .ref (ma 7), .int 0, .int 0, .int 0, .int 0, .int 0, .int 0, .int (-1), .int (-1), .int 0, .int 0, .int 0, .ref (ma 8), .int 0, .int 0, .int (-1), .int 0, .int 0, .int 0, .ref (ma 9), .int 0, .int 0, .ref (ma 10), .ref (ma 11), .ref (ma 12), .int 0, .int 0]))]) hP hD [0] [] rfl rfl (by decide) (by decide) hk1 hFc hP1 hD1
  have hP : va_P D vwCl [(ma 0, .inr (11, [.ref (ma 1), .ref (ma 2), .int 0, .long 0, .long 1, .ref (ma 3), .ref (ma 4), .ref (ma 5), .ref (ma 6), .ref (ma 7), .int 0, .int 0, .int 0, .int 0, .int 0, .int 0, .int (-1), .int (-1), .int 0, .int 0, .int 0, .ref (ma 8), .int 0, .int 0, .int (-1), .int 0, .int 0, .int 0, .ref (ma 9), .int 0, .int 0, .ref (ma 10), .ref (ma 11), .ref (ma 12), .int 0, .int 0]))] H := hP
  have hD : va_D A [(ma 0, .inr (11, [.ref (ma 1), .ref (ma 2), .int 0, .long 0, .long 1, .ref (ma 3), .ref (ma 4), .ref (ma 5), .ref (ma 6), .ref (ma 7), .int 0, .int 0, .int 0, .int 0, .int 0, .int 0, .int (-1), .int (-1), .int 0, .int 0, .int 0, .ref (ma 8), .int 0, .int 0, .int (-1), .int 0, .int 0, .int 0, .ref (ma 9), .int 0, .int 0, .ref (ma 10), .ref (ma 11), .ref (ma 12), .int 0, .int 0]))] := hD
  subst hw
  refine lv_istore_n (lv' := [(1, .int (-1)), (0, .ref (ma 0))]) hx hb dX12_ahead_55 rfl hl (by decide) rfl (fun ls hl => ?_)
  refine lv_aload_n hx hb dX12_ahead_56 rfl (lv_at hl 1 rfl) ?_
  refine lv_iload_n hx hb dX12_ahead_57 rfl (lv_at hl 0 rfl) ?_
  refine va_put (D := D) (ci := 11) (v := .int (-1)) (ty := .int) (C := RX12) (T := TX12) (N := 36) hx hb hts im_ahead_X12 tyX12 tyX12_ok nmX12 hown hK hP hD hS 0 rfl rfl 15 (by decide) (hts (.fieldLink RX12 114 "SaltStreetModel" "value" "I") (List.mem_of_getElem? (i := 9) rfl)) (fun _ h9 => h9) rfl (by decide +kernel) rfl rfl (Nat.le_of_ble_eq_true rfl) dX12_ahead_58 (fun H locs hP hD hS => ?_)
  have hP : va_P D vwCl [(ma 0, .inr (11, [.ref (ma 1), .ref (ma 2), .int 0, .long 0, .long 1, .ref (ma 3), .ref (ma 4), .ref (ma 5), .ref (ma 6), .ref (ma 7), .int 0, .int 0, .int 0, .int 0, .int 0, .int (-1), .int (-1), .int (-1), .int 0, .int 0, .int 0, .ref (ma 8), .int 0, .int 0, .int (-1), .int 0, .int 0, .int 0, .ref (ma 9), .int 0, .int 0, .ref (ma 10), .ref (ma 11), .ref (ma 12), .int 0, .int 0]))] H := hP
  have hD : va_D A [(ma 0, .inr (11, [.ref (ma 1), .ref (ma 2), .int 0, .long 0, .long 1, .ref (ma 3), .ref (ma 4), .ref (ma 5), .ref (ma 6), .ref (ma 7), .int 0, .int 0, .int 0, .int 0, .int 0, .int (-1), .int (-1), .int (-1), .int 0, .int 0, .int 0, .ref (ma 8), .int 0, .int 0, .int (-1), .int 0, .int 0, .int 0, .ref (ma 9), .int 0, .int 0, .ref (ma 10), .ref (ma 11), .ref (ma 12), .int 0, .int 0]))] := hD
  refine lv_iload_n hx hb dX12_ahead_61 rfl (lv_at hl 0 rfl) ?_
  refine lv_iconst (v := (-1)) hx hb dX12_ahead_62 (by decide) ?_
  refine lv_icmp_ne (tgt := 74) hx hb dX12_ahead_63 (by decide) (fun h => absurd (by decide) h) (fun _ => ?_)
  refine lv_aload_n hx hb dX12_ahead_66 rfl (lv_at hl 1 rfl) ?_
  refine lv_iconst (v := 0) hx hb dX12_ahead_67 (by decide) ?_
  refine va_put (D := D) (ci := 11) (v := .int 0) (ty := .int) (C := RX12) (T := TX12) (N := 36) hx hb hts im_ahead_X12 tyX12 tyX12_ok nmX12 hown hK hP hD hS 0 rfl rfl 12 (by decide) (hts (.fieldLink RX12 117 "SaltStreetModel" "token" "I") (List.mem_of_getElem? (i := 10) rfl)) (fun _ h9 => h9) rfl (by decide +kernel) rfl rfl (Nat.le_of_ble_eq_true rfl) dX12_ahead_68 (fun H locs hP hD hS => ?_)
  have hP : va_P D vwCl [(ma 0, .inr (11, [.ref (ma 1), .ref (ma 2), .int 0, .long 0, .long 1, .ref (ma 3), .ref (ma 4), .ref (ma 5), .ref (ma 6), .ref (ma 7), .int 0, .int 0, .int 0, .int 0, .int 0, .int (-1), .int (-1), .int (-1), .int 0, .int 0, .int 0, .ref (ma 8), .int 0, .int 0, .int (-1), .int 0, .int 0, .int 0, .ref (ma 9), .int 0, .int 0, .ref (ma 10), .ref (ma 11), .ref (ma 12), .int 0, .int 0]))] H := hP
  have hD : va_D A [(ma 0, .inr (11, [.ref (ma 1), .ref (ma 2), .int 0, .long 0, .long 1, .ref (ma 3), .ref (ma 4), .ref (ma 5), .ref (ma 6), .ref (ma 7), .int 0, .int 0, .int 0, .int 0, .int 0, .int (-1), .int (-1), .int (-1), .int 0, .int 0, .int 0, .ref (ma 8), .int 0, .int 0, .int (-1), .int 0, .int 0, .int 0, .ref (ma 9), .int 0, .int 0, .ref (ma 10), .ref (ma 11), .ref (ma 12), .int 0, .int 0]))] := hD
  refine lv_goto (tgt := 251) hx hb dX12_ahead_71 (by decide) ?_
  have hP9 := hP.sub (ws' := [(ma 0, .inr (11, [.ref (ma 1), .ref (ma 2), .int 0, .long 0, .long 1, .ref (ma 3), .ref (ma 4), .ref (ma 5), .ref (ma 6), .ref (ma 7), .int 0, .int 0, .int 0, .int 0, .int 0, .int (-1), .int (-1), .int (-1), .int 0, .int 0, .int 0, .ref (ma 8), .int 0, .int 0, .int (-1), .int 0, .int 0, .int 0, .ref (ma 9), .int 0, .int 0, .ref (ma 10), .ref (ma 11), .ref (ma 12), .int 0, .int 0]))]) [0] rfl
  have hD9 := hD.sub (ws' := [(ma 0, .inr (11, [.ref (ma 1), .ref (ma 2), .int 0, .long 0, .long 1, .ref (ma 3), .ref (ma 4), .ref (ma 5), .ref (ma 6), .ref (ma 7), .int 0, .int 0, .int 0, .int 0, .int 0, .int (-1), .int (-1), .int (-1), .int 0, .int 0, .int 0, .ref (ma 8), .int 0, .int 0, .int (-1), .int 0, .int 0, .int 0, .ref (ma 9), .int 0, .int 0, .ref (ma 10), .ref (ma 11), .ref (ma 12), .int 0, .int 0]))]) [0] (by decide) rfl
  exact W.vret hx hb hr (fun t9 ht hW => ⟨⟨(), rfl, trivial, ⟨by rw [ht]; exact hP9, hD9⟩⟩, hS.F ht⟩) hS.2.2 dX12_ahead_251
theorem dX12_begins_0 : decode cX12_begins 0 = .ok (.iload_n 1, 1) := by decide +kernel
theorem dX12_begins_1 : decode cX12_begins 1 = .ok (.ifCond .lt 16, 3) := by decide +kernel
theorem dX12_begins_4 : decode cX12_begins 4 = .ok (.iload_n 1, 1) := by decide +kernel
theorem dX12_begins_5 : decode cX12_begins 5 = .ok (.aload_n 0, 1) := by decide +kernel
theorem dX12_begins_6 : decode cX12_begins 6 = .ok (.getfield 96, 3) := by decide +kernel
theorem dX12_begins_9 : decode cX12_begins 9 = .ok (.if_icmp .gt 8, 3) := by decide +kernel
theorem dX12_begins_12 : decode cX12_begins 12 = .ok (.iload_n 1, 1) := by decide +kernel
theorem dX12_begins_13 : decode cX12_begins 13 = .ok (.iload_n 2, 1) := by decide +kernel
theorem dX12_begins_14 : decode cX12_begins 14 = .ok (.if_icmp .le 5, 3) := by decide +kernel
theorem dX12_begins_19 : decode cX12_begins 19 = .ok (.aload_n 0, 1) := by decide +kernel
theorem dX12_begins_20 : decode cX12_begins 20 = .ok (.iload_n 1, 1) := by decide +kernel
theorem dX12_begins_21 : decode cX12_begins 21 = .ok (.putfield 102, 3) := by decide +kernel
theorem dX12_begins_24 : decode cX12_begins 24 = .ok (.iconst 0, 1) := by decide +kernel
theorem dX12_begins_25 : decode cX12_begins 25 = .ok (.istore_n 3, 1) := by decide +kernel
theorem dX12_begins_26 : decode cX12_begins 26 = .ok (.iload_n 3, 1) := by decide +kernel
theorem dX12_begins_27 : decode cX12_begins 27 = .ok (.iload_n 1, 1) := by decide +kernel
theorem dX12_begins_28 : decode cX12_begins 28 = .ok (.if_icmp .ge 21, 3) := by decide +kernel
theorem dX12_begins_49 : decode cX12_begins 49 = .ok (.aload_n 0, 1) := by decide +kernel
theorem dX12_begins_50 : decode cX12_begins 50 = .ok (.iconst 0, 1) := by decide +kernel
theorem dX12_begins_51 : decode cX12_begins 51 = .ok (.putfield 96, 3) := by decide +kernel
theorem dX12_begins_54 : decode cX12_begins 54 = .ok (.aload_n 0, 1) := by decide +kernel
theorem dX12_begins_55 : decode cX12_begins 55 = .ok (.iconst 0, 1) := by decide +kernel
theorem dX12_begins_56 : decode cX12_begins 56 = .ok (.putfield 142, 3) := by decide +kernel
theorem dX12_begins_59 : decode cX12_begins 59 = .ok (.aload_n 0, 1) := by decide +kernel
theorem dX12_begins_60 : decode cX12_begins 60 = .ok (.iconst (-1), 1) := by decide +kernel
theorem dX12_begins_61 : decode cX12_begins 61 = .ok (.putfield 41, 3) := by decide +kernel
theorem dX12_begins_64 : decode cX12_begins 64 = .ok (.aload_n 0, 1) := by decide +kernel
theorem dX12_begins_65 : decode cX12_begins 65 = .ok (.iconst 0, 1) := by decide +kernel
theorem dX12_begins_66 : decode cX12_begins 66 = .ok (.putfield 105, 3) := by decide +kernel
theorem dX12_begins_69 : decode cX12_begins 69 = .ok (.aload_n 0, 1) := by decide +kernel
theorem dX12_begins_70 : decode cX12_begins 70 = .ok (.iconst 0, 1) := by decide +kernel
theorem dX12_begins_71 : decode cX12_begins 71 = .ok (.putfield 145, 3) := by decide +kernel
theorem dX12_begins_74 : decode cX12_begins 74 = .ok (.aload_n 0, 1) := by decide +kernel
theorem dX12_begins_75 : decode cX12_begins 75 = .ok (.invokevirtual 148, 3) := by decide +kernel
theorem dX12_begins_78 : decode cX12_begins 78 = .ok (.iconst 1, 1) := by decide +kernel
theorem dX12_begins_79 : decode cX12_begins 79 = .ok (.ireturn, 1) := by decide +kernel
def vdm_begins900 : List Cond := [.code yX12_begins cX12_begins 4 (some .boolean), .fieldLink RX12 96 "SaltStreetModel" "taped" "I", .fieldLink RX12 102 "SaltStreetModel" "size" "I", .fieldLink RX12 142 "SaltStreetModel" "faults" "I", .fieldLink RX12 41 "SaltStreetModel" "faultPlace" "I", .fieldLink RX12 105 "SaltStreetModel" "end" "I", .fieldLink RX12 145 "SaltStreetModel" "seen" "I", .methodLink RX12 148 yX12_ahead, .code yX12_ahead cX12_ahead 2 none, .methodLink RX12 108 yX12_byteAt, .code yX12_byteAt cX12_byteAt 2 (some .int), .instanceMethod yX12_byteAt, .selects RX12 yX12_byteAt yX12_byteAt, .initialized RX12, .fieldLink RX12 111 "SaltStreetModel" "from" "I", .fieldLink RX12 114 "SaltStreetModel" "value" "I", .fieldLink RX12 117 "SaltStreetModel" "token" "I", .instanceMethod yX12_ahead, .selects RX12 yX12_ahead yX12_ahead]
def vm_begins900 : List Cond := vdm_begins900 ++ (wsX120 ++ ([] : List Cond))
theorem im_begins900_X12 : ∀ w ∈ wsX120, w ∈ vm_begins900 := fun _ h => List.mem_append_right _ (List.mem_append_left _ h)
set_option maxRecDepth 20000 in
theorem gm_begins900_148_m_ahead : GoodIn vm_begins900 (wsV RX12 148 RX12 yX12_ahead vm_ahead) := (goodIn_app (goodIn_r _ [7, 17, 18, 13] rfl (by decide +kernel)) (goodIn_app (goodIn_r vdm_ahead [8, 5, 9, 10, 2, 11, 12, 13, 14, 15, 16] rfl (by decide +kernel)) (goodIn_app (goodIn_sub im_begins900_X12 gdX12) goodIn_nil)))
set_option maxHeartbeats 4000000 in
set_option maxRecDepth 100000 in
theorem m_begins900 (l : Launch) (D : va_G) (kc : Nat → ClassId) (sz : Nat) (ma : Nat → Nat) : Met l yX12_begins vm_begins900 ({ frames := 2, cells := 0, slots := 0, locals := 42 }) (va_Pc [.ref (ma 0), .int 0, .int 900] (wPre D kc [(ma 0, .inr (11, [.ref (ma 1), .ref (ma 2), .int 0, .long 0, .long 1, .ref (ma 3), .ref (ma 4), .ref (ma 5), .ref (ma 6), .ref (ma 7), .int 0, .int 0, .int 0, .int 0, .int 0, .int 0, .int (-1), .int (-1), .int 0, .int 0, .int 0, .ref (ma 8), .int 0, .int 0, .int (-1), .int 0, .int 0, .int 0, .ref (ma 9), .int 0, .int 0, .ref (ma 10), .ref (ma 11), .ref (ma 12), .int 0, .int 0]))] sz)) (va_Qi (fun (r : Int32) (_ : Unit) => r = 1) (wPost D [(ma 0, .inr (11, [.ref (ma 1), .ref (ma 2), .int 0, .long 0, .long 1, .ref (ma 3), .ref (ma 4), .ref (ma 5), .ref (ma 6), .ref (ma 7), .int 0, .int 0, .int 0, .int 0, .int 0, .int (-1), .int (-1), .int (-1), .int 0, .int 0, .int 0, .ref (ma 8), .int 0, .int 0, .int (-1), .int 0, .int 0, .int 0, .ref (ma 9), .int 0, .int 0, .ref (ma 10), .ref (ma 11), .ref (ma 12), .int 0, .int 0]))] (va_A [(ma 0, .inr (11, [.ref (ma 1), .ref (ma 2), .int 0, .long 0, .long 1, .ref (ma 3), .ref (ma 4), .ref (ma 5), .ref (ma 6), .ref (ma 7), .int 0, .int 0, .int 0, .int 0, .int 0, .int 0, .int (-1), .int (-1), .int 0, .int 0, .int 0, .ref (ma 8), .int 0, .int 0, .int (-1), .int 0, .int 0, .int 0, .ref (ma 9), .int 0, .int 0, .ref (ma 10), .ref (ma 11), .ref (ma 12), .int 0, .int 0]))] sz)) (va_A [(ma 0, .inr (11, [.ref (ma 1), .ref (ma 2), .int 0, .long 0, .long 1, .ref (ma 3), .ref (ma 4), .ref (ma 5), .ref (ma 6), .ref (ma 7), .int 0, .int 0, .int 0, .int 0, .int 0, .int 0, .int (-1), .int (-1), .int 0, .int 0, .int 0, .ref (ma 8), .int 0, .int 0, .int (-1), .int 0, .int 0, .int 0, .ref (ma 9), .int 0, .int 0, .ref (ma 10), .ref (ma 11), .ref (ma 12), .int 0, .int 0]))] sz)) 0 0 (va_A [(ma 0, .inr (11, [.ref (ma 1), .ref (ma 2), .int 0, .long 0, .long 1, .ref (ma 3), .ref (ma 4), .ref (ma 5), .ref (ma 6), .ref (ma 7), .int 0, .int 0, .int 0, .int 0, .int 0, .int 0, .int (-1), .int (-1), .int 0, .int 0, .int 0, .ref (ma 8), .int 0, .int 0, .int (-1), .int 0, .int 0, .int 0, .ref (ma 9), .int 0, .int 0, .ref (ma 10), .ref (ma 11), .ref (ma 12), .int 0, .int 0]))] sz) := by
  refine Met.ofW (cc := cX12_begins) (maxL := 4) (ret := (some .boolean)) (by decide) rfl ?_
  intro p e s m args below meth c s₁ B hml hv
  obtain ⟨rfl, hsz, hP, hE, hD0⟩ := hv
  have hx := B.exec
  have hb := B.bytes
  have hr := B.returns
  have hts := atoms_spec (ws := vm_begins900) B.pre
  have hown : s.vm.findClass RX12 = some m.cls := findClass_of_methodNamed B.named
  have hlocks := B.notSynchronized
  subst hsz
  have hD := hD0.self (sz := s.heap.size)
  generalize hAe : va_A [(ma 0, .inr (11, [.ref (ma 1), .ref (ma 2), .int 0, .long 0, .long 1, .ref (ma 3), .ref (ma 4), .ref (ma 5), .ref (ma 6), .ref (ma 7), .int 0, .int 0, .int 0, .int 0, .int 0, .int 0, .int (-1), .int (-1), .int 0, .int 0, .int 0, .ref (ma 8), .int 0, .int 0, .int (-1), .int 0, .int 0, .int 0, .ref (ma 9), .int 0, .int 0, .ref (ma 10), .ref (ma 11), .ref (ma 12), .int 0, .int 0]))] s.heap.size = A at hD ⊢
  have hA : ∀ q : Nat, s.heap.size ≤ q → A q := fun q h => by rw [← hAe]; exact Or.inr h
  have hS : va_S A s.heap s.heap [] := va_S.rf
  have hK := hE.1
  have hP : va_P D vwCl [(ma 0, .inr (11, [.ref (ma 1), .ref (ma 2), .int 0, .long 0, .long 1, .ref (ma 3), .ref (ma 4), .ref (ma 5), .ref (ma 6), .ref (ma 7), .int 0, .int 0, .int 0, .int 0, .int 0, .int 0, .int (-1), .int (-1), .int 0, .int 0, .int 0, .ref (ma 8), .int 0, .int 0, .int (-1), .int 0, .int 0, .int 0, .ref (ma 9), .int 0, .int 0, .ref (ma 10), .ref (ma 11), .ref (ma 12), .int 0, .int 0]))] s.heap := hP
  have hl := lv_entry ([.ref (ma 0), .int 0, .int 900]) (n := 4) (Nat.le_of_ble_eq_true rfl)
  rw [lg_entry_eq]
  generalize (lg_sl ([.ref (ma 0), .int 0, .int 900]) ++ List.replicate (4 - (lg_sl ([.ref (ma 0), .int 0, .int 900])).length) Slot.unset).toArray = ls at hl ⊢
  have hl : lv_has ls 4 [(0, .ref (ma 0)), (1, .int 0), (2, .int 900)] := hl
  refine lv_iload_n hx hb dX12_begins_0 rfl (lv_at hl 1 rfl) ?_
  refine lv_if_lt (tgt := 17) hx hb dX12_begins_1 (by decide) (fun h => absurd h (by decide)) (fun _ => ?_)
  refine lv_iload_n hx hb dX12_begins_4 rfl (lv_at hl 1 rfl) ?_
  refine lv_aload_n hx hb dX12_begins_5 rfl (lv_at hl 0 rfl) ?_
  refine va_get (D := D) (ci := 11) (v := .int 0) (C := RX12) (T := TX12) (N := 36) hx hb hts im_begins900_X12 hown hK hP 0 rfl rfl 10 (by decide) (hts (.fieldLink RX12 96 "SaltStreetModel" "taped" "I") (List.mem_of_getElem? (i := 1) rfl)) (fun _ h9 => h9) rfl dX12_begins_6 ?_
  refine lv_icmp_gt (tgt := 17) hx hb dX12_begins_9 (by decide) (fun h => absurd h (by decide)) (fun _ => ?_)
  refine lv_iload_n hx hb dX12_begins_12 rfl (lv_at hl 1 rfl) ?_
  refine lv_iload_n hx hb dX12_begins_13 rfl (lv_at hl 2 rfl) ?_
  refine lv_icmp_le (tgt := 19) hx hb dX12_begins_14 (by decide) (fun _ => ?_) (fun h => absurd (by decide) h)
  refine lv_aload_n hx hb dX12_begins_19 rfl (lv_at hl 0 rfl) ?_
  refine lv_iload_n hx hb dX12_begins_20 rfl (lv_at hl 1 rfl) ?_
  refine va_put (D := D) (ci := 11) (v := .int 0) (ty := .int) (C := RX12) (T := TX12) (N := 36) hx hb hts im_begins900_X12 tyX12 tyX12_ok nmX12 hown hK hP hD hS 0 rfl rfl 11 (by decide) (hts (.fieldLink RX12 102 "SaltStreetModel" "size" "I") (List.mem_of_getElem? (i := 2) rfl)) (fun _ h9 => h9) rfl (by decide +kernel) rfl rfl (Nat.le_of_ble_eq_true rfl) dX12_begins_21 (fun H locs hP hD hS => ?_)
  have hP : va_P D vwCl [(ma 0, .inr (11, [.ref (ma 1), .ref (ma 2), .int 0, .long 0, .long 1, .ref (ma 3), .ref (ma 4), .ref (ma 5), .ref (ma 6), .ref (ma 7), .int 0, .int 0, .int 0, .int 0, .int 0, .int 0, .int (-1), .int (-1), .int 0, .int 0, .int 0, .ref (ma 8), .int 0, .int 0, .int (-1), .int 0, .int 0, .int 0, .ref (ma 9), .int 0, .int 0, .ref (ma 10), .ref (ma 11), .ref (ma 12), .int 0, .int 0]))] H := hP
  have hD : va_D A [(ma 0, .inr (11, [.ref (ma 1), .ref (ma 2), .int 0, .long 0, .long 1, .ref (ma 3), .ref (ma 4), .ref (ma 5), .ref (ma 6), .ref (ma 7), .int 0, .int 0, .int 0, .int 0, .int 0, .int 0, .int (-1), .int (-1), .int 0, .int 0, .int 0, .ref (ma 8), .int 0, .int 0, .int (-1), .int 0, .int 0, .int 0, .ref (ma 9), .int 0, .int 0, .ref (ma 10), .ref (ma 11), .ref (ma 12), .int 0, .int 0]))] := hD
  refine lv_iconst (v := 0) hx hb dX12_begins_24 (by decide) ?_
  refine lv_istore_n (lv' := [(3, .int 0), (0, .ref (ma 0)), (1, .int 0), (2, .int 900)]) hx hb dX12_begins_25 rfl hl (by decide) rfl (fun ls hl => ?_)
  refine lv_iload_n hx hb dX12_begins_26 rfl (lv_at hl 0 rfl) ?_
  refine lv_iload_n hx hb dX12_begins_27 rfl (lv_at hl 2 rfl) ?_
  refine lv_icmp_ge (tgt := 49) hx hb dX12_begins_28 (by decide) (fun _ => ?_) (fun h => absurd (by decide) h)
  refine lv_aload_n hx hb dX12_begins_49 rfl (lv_at hl 1 rfl) ?_
  refine lv_iconst (v := 0) hx hb dX12_begins_50 (by decide) ?_
  refine va_put (D := D) (ci := 11) (v := .int 0) (ty := .int) (C := RX12) (T := TX12) (N := 36) hx hb hts im_begins900_X12 tyX12 tyX12_ok nmX12 hown hK hP hD hS 0 rfl rfl 10 (by decide) (hts (.fieldLink RX12 96 "SaltStreetModel" "taped" "I") (List.mem_of_getElem? (i := 1) rfl)) (fun _ h9 => h9) rfl (by decide +kernel) rfl rfl (Nat.le_of_ble_eq_true rfl) dX12_begins_51 (fun H locs hP hD hS => ?_)
  have hP : va_P D vwCl [(ma 0, .inr (11, [.ref (ma 1), .ref (ma 2), .int 0, .long 0, .long 1, .ref (ma 3), .ref (ma 4), .ref (ma 5), .ref (ma 6), .ref (ma 7), .int 0, .int 0, .int 0, .int 0, .int 0, .int 0, .int (-1), .int (-1), .int 0, .int 0, .int 0, .ref (ma 8), .int 0, .int 0, .int (-1), .int 0, .int 0, .int 0, .ref (ma 9), .int 0, .int 0, .ref (ma 10), .ref (ma 11), .ref (ma 12), .int 0, .int 0]))] H := hP
  have hD : va_D A [(ma 0, .inr (11, [.ref (ma 1), .ref (ma 2), .int 0, .long 0, .long 1, .ref (ma 3), .ref (ma 4), .ref (ma 5), .ref (ma 6), .ref (ma 7), .int 0, .int 0, .int 0, .int 0, .int 0, .int 0, .int (-1), .int (-1), .int 0, .int 0, .int 0, .ref (ma 8), .int 0, .int 0, .int (-1), .int 0, .int 0, .int 0, .ref (ma 9), .int 0, .int 0, .ref (ma 10), .ref (ma 11), .ref (ma 12), .int 0, .int 0]))] := hD
  refine lv_aload_n hx hb dX12_begins_54 rfl (lv_at hl 1 rfl) ?_
  refine lv_iconst (v := 0) hx hb dX12_begins_55 (by decide) ?_
  refine va_put (D := D) (ci := 11) (v := .int 0) (ty := .int) (C := RX12) (T := TX12) (N := 36) hx hb hts im_begins900_X12 tyX12 tyX12_ok nmX12 hown hK hP hD hS 0 rfl rfl 18 (by decide) (hts (.fieldLink RX12 142 "SaltStreetModel" "faults" "I") (List.mem_of_getElem? (i := 3) rfl)) (fun _ h9 => h9) rfl (by decide +kernel) rfl rfl (Nat.le_of_ble_eq_true rfl) dX12_begins_56 (fun H locs hP hD hS => ?_)
  have hP : va_P D vwCl [(ma 0, .inr (11, [.ref (ma 1), .ref (ma 2), .int 0, .long 0, .long 1, .ref (ma 3), .ref (ma 4), .ref (ma 5), .ref (ma 6), .ref (ma 7), .int 0, .int 0, .int 0, .int 0, .int 0, .int 0, .int (-1), .int (-1), .int 0, .int 0, .int 0, .ref (ma 8), .int 0, .int 0, .int (-1), .int 0, .int 0, .int 0, .ref (ma 9), .int 0, .int 0, .ref (ma 10), .ref (ma 11), .ref (ma 12), .int 0, .int 0]))] H := hP
  have hD : va_D A [(ma 0, .inr (11, [.ref (ma 1), .ref (ma 2), .int 0, .long 0, .long 1, .ref (ma 3), .ref (ma 4), .ref (ma 5), .ref (ma 6), .ref (ma 7), .int 0, .int 0, .int 0, .int 0, .int 0, .int 0, .int (-1), .int (-1), .int 0, .int 0, .int 0, .ref (ma 8), .int 0, .int 0, .int (-1), .int 0, .int 0, .int 0, .ref (ma 9), .int 0, .int 0, .ref (ma 10), .ref (ma 11), .ref (ma 12), .int 0, .int 0]))] := hD
  refine lv_aload_n hx hb dX12_begins_59 rfl (lv_at hl 1 rfl) ?_
  refine lv_iconst (v := (-1)) hx hb dX12_begins_60 (by decide) ?_
  refine va_put (D := D) (ci := 11) (v := .int (-1)) (ty := .int) (C := RX12) (T := TX12) (N := 36) hx hb hts im_begins900_X12 tyX12 tyX12_ok nmX12 hown hK hP hD hS 0 rfl rfl 17 (by decide) (hts (.fieldLink RX12 41 "SaltStreetModel" "faultPlace" "I") (List.mem_of_getElem? (i := 4) rfl)) (fun _ h9 => h9) rfl (by decide +kernel) rfl rfl (Nat.le_of_ble_eq_true rfl) dX12_begins_61 (fun H locs hP hD hS => ?_)
  have hP : va_P D vwCl [(ma 0, .inr (11, [.ref (ma 1), .ref (ma 2), .int 0, .long 0, .long 1, .ref (ma 3), .ref (ma 4), .ref (ma 5), .ref (ma 6), .ref (ma 7), .int 0, .int 0, .int 0, .int 0, .int 0, .int 0, .int (-1), .int (-1), .int 0, .int 0, .int 0, .ref (ma 8), .int 0, .int 0, .int (-1), .int 0, .int 0, .int 0, .ref (ma 9), .int 0, .int 0, .ref (ma 10), .ref (ma 11), .ref (ma 12), .int 0, .int 0]))] H := hP
  have hD : va_D A [(ma 0, .inr (11, [.ref (ma 1), .ref (ma 2), .int 0, .long 0, .long 1, .ref (ma 3), .ref (ma 4), .ref (ma 5), .ref (ma 6), .ref (ma 7), .int 0, .int 0, .int 0, .int 0, .int 0, .int 0, .int (-1), .int (-1), .int 0, .int 0, .int 0, .ref (ma 8), .int 0, .int 0, .int (-1), .int 0, .int 0, .int 0, .ref (ma 9), .int 0, .int 0, .ref (ma 10), .ref (ma 11), .ref (ma 12), .int 0, .int 0]))] := hD
  refine lv_aload_n hx hb dX12_begins_64 rfl (lv_at hl 1 rfl) ?_
  refine lv_iconst (v := 0) hx hb dX12_begins_65 (by decide) ?_
  refine va_put (D := D) (ci := 11) (v := .int 0) (ty := .int) (C := RX12) (T := TX12) (N := 36) hx hb hts im_begins900_X12 tyX12 tyX12_ok nmX12 hown hK hP hD hS 0 rfl rfl 14 (by decide) (hts (.fieldLink RX12 105 "SaltStreetModel" "end" "I") (List.mem_of_getElem? (i := 5) rfl)) (fun _ h9 => h9) rfl (by decide +kernel) rfl rfl (Nat.le_of_ble_eq_true rfl) dX12_begins_66 (fun H locs hP hD hS => ?_)
  have hP : va_P D vwCl [(ma 0, .inr (11, [.ref (ma 1), .ref (ma 2), .int 0, .long 0, .long 1, .ref (ma 3), .ref (ma 4), .ref (ma 5), .ref (ma 6), .ref (ma 7), .int 0, .int 0, .int 0, .int 0, .int 0, .int 0, .int (-1), .int (-1), .int 0, .int 0, .int 0, .ref (ma 8), .int 0, .int 0, .int (-1), .int 0, .int 0, .int 0, .ref (ma 9), .int 0, .int 0, .ref (ma 10), .ref (ma 11), .ref (ma 12), .int 0, .int 0]))] H := hP
  have hD : va_D A [(ma 0, .inr (11, [.ref (ma 1), .ref (ma 2), .int 0, .long 0, .long 1, .ref (ma 3), .ref (ma 4), .ref (ma 5), .ref (ma 6), .ref (ma 7), .int 0, .int 0, .int 0, .int 0, .int 0, .int 0, .int (-1), .int (-1), .int 0, .int 0, .int 0, .ref (ma 8), .int 0, .int 0, .int (-1), .int 0, .int 0, .int 0, .ref (ma 9), .int 0, .int 0, .ref (ma 10), .ref (ma 11), .ref (ma 12), .int 0, .int 0]))] := hD
  refine lv_aload_n hx hb dX12_begins_69 rfl (lv_at hl 1 rfl) ?_
  refine lv_iconst (v := 0) hx hb dX12_begins_70 (by decide) ?_
  refine va_put (D := D) (ci := 11) (v := .int 0) (ty := .int) (C := RX12) (T := TX12) (N := 36) hx hb hts im_begins900_X12 tyX12 tyX12_ok nmX12 hown hK hP hD hS 0 rfl rfl 19 (by decide) (hts (.fieldLink RX12 145 "SaltStreetModel" "seen" "I") (List.mem_of_getElem? (i := 6) rfl)) (fun _ h9 => h9) rfl (by decide +kernel) rfl rfl (Nat.le_of_ble_eq_true rfl) dX12_begins_71 (fun H locs hP hD hS => ?_)
  have hP : va_P D vwCl [(ma 0, .inr (11, [.ref (ma 1), .ref (ma 2), .int 0, .long 0, .long 1, .ref (ma 3), .ref (ma 4), .ref (ma 5), .ref (ma 6), .ref (ma 7), .int 0, .int 0, .int 0, .int 0, .int 0, .int 0, .int (-1), .int (-1), .int 0, .int 0, .int 0, .ref (ma 8), .int 0, .int 0, .int (-1), .int 0, .int 0, .int 0, .ref (ma 9), .int 0, .int 0, .ref (ma 10), .ref (ma 11), .ref (ma 12), .int 0, .int 0]))] H := hP
  have hD : va_D A [(ma 0, .inr (11, [.ref (ma 1), .ref (ma 2), .int 0, .long 0, .long 1, .ref (ma 3), .ref (ma 4), .ref (ma 5), .ref (ma 6), .ref (ma 7), .int 0, .int 0, .int 0, .int 0, .int 0, .int 0, .int (-1), .int (-1), .int 0, .int 0, .int 0, .ref (ma 8), .int 0, .int 0, .int (-1), .int 0, .int 0, .int 0, .ref (ma 9), .int 0, .int 0, .ref (ma 10), .ref (ma 11), .ref (ma 12), .int 0, .int 0]))] := hD
  refine lv_aload_n hx hb dX12_begins_74 rfl (lv_at hl 1 rfl) ?_
  have hPc := hP.sub (ws' := [(ma 0, .inr (11, [.ref (ma 1), .ref (ma 2), .int 0, .long 0, .long 1, .ref (ma 3), .ref (ma 4), .ref (ma 5), .ref (ma 6), .ref (ma 7), .int 0, .int 0, .int 0, .int 0, .int 0, .int 0, .int (-1), .int (-1), .int 0, .int 0, .int 0, .ref (ma 8), .int 0, .int 0, .int (-1), .int 0, .int 0, .int 0, .ref (ma 9), .int 0, .int 0, .ref (ma 10), .ref (ma 11), .ref (ma 12), .int 0, .int 0]))]) [0] rfl
  have hDc := hD.sub (ws' := [(ma 0, .inr (11, [.ref (ma 1), .ref (ma 2), .int 0, .long 0, .long 1, .ref (ma 3), .ref (ma 4), .ref (ma 5), .ref (ma 6), .ref (ma 7), .int 0, .int 0, .int 0, .int 0, .int 0, .int 0, .int (-1), .int (-1), .int 0, .int 0, .int 0, .ref (ma 8), .int 0, .int 0, .int (-1), .int 0, .int 0, .int 0, .ref (ma 9), .int 0, .int 0, .ref (ma 10), .ref (ma 11), .ref (ma 12), .int 0, .int 0]))]) [0] (by decide) rfl
  have hFc := va_free (wc := [(ma 0, .inr (11, [.ref (ma 1), .ref (ma 2), .int 0, .long 0, .long 1, .ref (ma 3), .ref (ma 4), .ref (ma 5), .ref (ma 6), .ref (ma 7), .int 0, .int 0, .int 0, .int 0, .int 0, .int 0, .int (-1), .int (-1), .int 0, .int 0, .int 0, .ref (ma 8), .int 0, .int 0, .int (-1), .int 0, .int 0, .int 0, .ref (ma 9), .int 0, .int 0, .ref (ma 10), .ref (ma 11), .ref (ma 12), .int 0, .int 0]))]) hD hS hA [0] rfl
  refine va_callv (va_runV (As := []) (rest := []) ⟨hx, hb, hml, hown, hts⟩ (m_ahead l D kc H.size ma) (cwV 0 hts gm_begins900_148_m_ahead rfl rfl rfl (by decide +kernel) ⟨Nat.le_of_ble_eq_true rfl, Nat.le_of_ble_eq_true rfl⟩) (preV_ok hPc hDc hE (ci := 11) (q0 := 0) rfl rfl) rfl rfl hl.1 rfl (lv_room (Nat.le_of_ble_eq_true rfl)) dX12_begins_75 ⟨Nat.le_of_ble_eq_true rfl, Nat.le_of_ble_eq_true rfl⟩) hS (fun q _ h => hFc q h) hFc (fun u9 t9 H locs ht hvm hw hB hz1 hk1 hS => ?_)
  obtain ⟨hP1, hD1⟩ := hB
  rw [ht] at hP1
  obtain ⟨hP, hD⟩ := va_join (wr := []) (w1 := [(ma 0, .inr (11, [.ref (ma 1), .ref (ma 2), .int 0, .long 0, .long 1, .ref (ma 3), .ref (ma 4), .ref (ma 5), .ref (ma 6), .ref (ma 7), .int 0, .int 0, .int 0, .int 0, .int 0, .int (-1), .int (-1), .int (-1), .int 0, .int 0, .int 0, .ref (ma 8), .int 0, .int 0, .int (-1), .int 0, .int 0, .int 0, .ref (ma 9), .int 0, .int 0, .ref (ma 10), .ref (ma 11), .ref (ma 12), .int 0, .int 0]))]) hP hD [0] [] rfl rfl (by decide) (by decide) hk1 hFc hP1 hD1
  have hP : va_P D vwCl [(ma 0, .inr (11, [.ref (ma 1), .ref (ma 2), .int 0, .long 0, .long 1, .ref (ma 3), .ref (ma 4), .ref (ma 5), .ref (ma 6), .ref (ma 7), .int 0, .int 0, .int 0, .int 0, .int 0, .int (-1), .int (-1), .int (-1), .int 0, .int 0, .int 0, .ref (ma 8), .int 0, .int 0, .int (-1), .int 0, .int 0, .int 0, .ref (ma 9), .int 0, .int 0, .ref (ma 10), .ref (ma 11), .ref (ma 12), .int 0, .int 0]))] H := hP
  have hD : va_D A [(ma 0, .inr (11, [.ref (ma 1), .ref (ma 2), .int 0, .long 0, .long 1, .ref (ma 3), .ref (ma 4), .ref (ma 5), .ref (ma 6), .ref (ma 7), .int 0, .int 0, .int 0, .int 0, .int 0, .int (-1), .int (-1), .int (-1), .int 0, .int 0, .int 0, .ref (ma 8), .int 0, .int 0, .int (-1), .int 0, .int 0, .int 0, .ref (ma 9), .int 0, .int 0, .ref (ma 10), .ref (ma 11), .ref (ma 12), .int 0, .int 0]))] := hD
  refine lv_iconst (v := 1) hx hb dX12_begins_78 (by decide) ?_
  have hP9 := hP.sub (ws' := [(ma 0, .inr (11, [.ref (ma 1), .ref (ma 2), .int 0, .long 0, .long 1, .ref (ma 3), .ref (ma 4), .ref (ma 5), .ref (ma 6), .ref (ma 7), .int 0, .int 0, .int 0, .int 0, .int 0, .int (-1), .int (-1), .int (-1), .int 0, .int 0, .int 0, .ref (ma 8), .int 0, .int 0, .int (-1), .int 0, .int 0, .int 0, .ref (ma 9), .int 0, .int 0, .ref (ma 10), .ref (ma 11), .ref (ma 12), .int 0, .int 0]))]) [0] rfl
  have hD9 := hD.sub (ws' := [(ma 0, .inr (11, [.ref (ma 1), .ref (ma 2), .int 0, .long 0, .long 1, .ref (ma 3), .ref (ma 4), .ref (ma 5), .ref (ma 6), .ref (ma 7), .int 0, .int 0, .int 0, .int 0, .int 0, .int (-1), .int (-1), .int (-1), .int 0, .int 0, .int 0, .ref (ma 8), .int 0, .int 0, .int (-1), .int 0, .int 0, .int 0, .ref (ma 9), .int 0, .int 0, .ref (ma 10), .ref (ma 11), .ref (ma 12), .int 0, .int 0]))]) [0] (by decide) rfl
  exact W.zret (v := 1) hx hb hr rfl (fun t9 ht hW => ⟨⟨1, (), rfl, rfl, ⟨by rw [ht]; exact hP9, hD9⟩⟩, hS.F ht⟩) hS.2.2 dX12_begins_79
def vdm_begins300 : List Cond := [.code yX12_begins cX12_begins 4 (some .boolean), .fieldLink RX12 96 "SaltStreetModel" "taped" "I", .fieldLink RX12 102 "SaltStreetModel" "size" "I", .fieldLink RX12 142 "SaltStreetModel" "faults" "I", .fieldLink RX12 41 "SaltStreetModel" "faultPlace" "I", .fieldLink RX12 105 "SaltStreetModel" "end" "I", .fieldLink RX12 145 "SaltStreetModel" "seen" "I", .methodLink RX12 148 yX12_ahead, .code yX12_ahead cX12_ahead 2 none, .methodLink RX12 108 yX12_byteAt, .code yX12_byteAt cX12_byteAt 2 (some .int), .instanceMethod yX12_byteAt, .selects RX12 yX12_byteAt yX12_byteAt, .initialized RX12, .fieldLink RX12 111 "SaltStreetModel" "from" "I", .fieldLink RX12 114 "SaltStreetModel" "value" "I", .fieldLink RX12 117 "SaltStreetModel" "token" "I", .instanceMethod yX12_ahead, .selects RX12 yX12_ahead yX12_ahead]
def vm_begins300 : List Cond := vdm_begins300 ++ (wsX120 ++ ([] : List Cond))
theorem im_begins300_X12 : ∀ w ∈ wsX120, w ∈ vm_begins300 := fun _ h => List.mem_append_right _ (List.mem_append_left _ h)
set_option maxRecDepth 20000 in
theorem gm_begins300_148_m_ahead : GoodIn vm_begins300 (wsV RX12 148 RX12 yX12_ahead vm_ahead) := (goodIn_app (goodIn_r _ [7, 17, 18, 13] rfl (by decide +kernel)) (goodIn_app (goodIn_r vdm_ahead [8, 5, 9, 10, 2, 11, 12, 13, 14, 15, 16] rfl (by decide +kernel)) (goodIn_app (goodIn_sub im_begins300_X12 gdX12) goodIn_nil)))
set_option maxHeartbeats 4000000 in
set_option maxRecDepth 100000 in
theorem m_begins300 (l : Launch) (D : va_G) (kc : Nat → ClassId) (sz : Nat) (ma : Nat → Nat) : Met l yX12_begins vm_begins300 ({ frames := 2, cells := 0, slots := 0, locals := 42 }) (va_Pc [.ref (ma 0), .int 0, .int 300] (wPre D kc [(ma 0, .inr (11, [.ref (ma 1), .ref (ma 2), .int 0, .long 0, .long 1, .ref (ma 3), .ref (ma 4), .ref (ma 5), .ref (ma 6), .ref (ma 7), .int 0, .int 0, .int 0, .int 0, .int 0, .int 0, .int (-1), .int (-1), .int 0, .int 0, .int 0, .ref (ma 8), .int 0, .int 0, .int (-1), .int 0, .int 0, .int 0, .ref (ma 9), .int 0, .int 0, .ref (ma 10), .ref (ma 11), .ref (ma 12), .int 0, .int 0]))] sz)) (va_Qi (fun (r : Int32) (_ : Unit) => r = 1) (wPost D [(ma 0, .inr (11, [.ref (ma 1), .ref (ma 2), .int 0, .long 0, .long 1, .ref (ma 3), .ref (ma 4), .ref (ma 5), .ref (ma 6), .ref (ma 7), .int 0, .int 0, .int 0, .int 0, .int 0, .int (-1), .int (-1), .int (-1), .int 0, .int 0, .int 0, .ref (ma 8), .int 0, .int 0, .int (-1), .int 0, .int 0, .int 0, .ref (ma 9), .int 0, .int 0, .ref (ma 10), .ref (ma 11), .ref (ma 12), .int 0, .int 0]))] (va_A [(ma 0, .inr (11, [.ref (ma 1), .ref (ma 2), .int 0, .long 0, .long 1, .ref (ma 3), .ref (ma 4), .ref (ma 5), .ref (ma 6), .ref (ma 7), .int 0, .int 0, .int 0, .int 0, .int 0, .int 0, .int (-1), .int (-1), .int 0, .int 0, .int 0, .ref (ma 8), .int 0, .int 0, .int (-1), .int 0, .int 0, .int 0, .ref (ma 9), .int 0, .int 0, .ref (ma 10), .ref (ma 11), .ref (ma 12), .int 0, .int 0]))] sz)) (va_A [(ma 0, .inr (11, [.ref (ma 1), .ref (ma 2), .int 0, .long 0, .long 1, .ref (ma 3), .ref (ma 4), .ref (ma 5), .ref (ma 6), .ref (ma 7), .int 0, .int 0, .int 0, .int 0, .int 0, .int 0, .int (-1), .int (-1), .int 0, .int 0, .int 0, .ref (ma 8), .int 0, .int 0, .int (-1), .int 0, .int 0, .int 0, .ref (ma 9), .int 0, .int 0, .ref (ma 10), .ref (ma 11), .ref (ma 12), .int 0, .int 0]))] sz)) 0 0 (va_A [(ma 0, .inr (11, [.ref (ma 1), .ref (ma 2), .int 0, .long 0, .long 1, .ref (ma 3), .ref (ma 4), .ref (ma 5), .ref (ma 6), .ref (ma 7), .int 0, .int 0, .int 0, .int 0, .int 0, .int 0, .int (-1), .int (-1), .int 0, .int 0, .int 0, .ref (ma 8), .int 0, .int 0, .int (-1), .int 0, .int 0, .int 0, .ref (ma 9), .int 0, .int 0, .ref (ma 10), .ref (ma 11), .ref (ma 12), .int 0, .int 0]))] sz) := by
  refine Met.ofW (cc := cX12_begins) (maxL := 4) (ret := (some .boolean)) (by decide) rfl ?_
  intro p e s m args below meth c s₁ B hml hv
  obtain ⟨rfl, hsz, hP, hE, hD0⟩ := hv
  have hx := B.exec
  have hb := B.bytes
  have hr := B.returns
  have hts := atoms_spec (ws := vm_begins300) B.pre
  have hown : s.vm.findClass RX12 = some m.cls := findClass_of_methodNamed B.named
  have hlocks := B.notSynchronized
  subst hsz
  have hD := hD0.self (sz := s.heap.size)
  generalize hAe : va_A [(ma 0, .inr (11, [.ref (ma 1), .ref (ma 2), .int 0, .long 0, .long 1, .ref (ma 3), .ref (ma 4), .ref (ma 5), .ref (ma 6), .ref (ma 7), .int 0, .int 0, .int 0, .int 0, .int 0, .int 0, .int (-1), .int (-1), .int 0, .int 0, .int 0, .ref (ma 8), .int 0, .int 0, .int (-1), .int 0, .int 0, .int 0, .ref (ma 9), .int 0, .int 0, .ref (ma 10), .ref (ma 11), .ref (ma 12), .int 0, .int 0]))] s.heap.size = A at hD ⊢
  have hA : ∀ q : Nat, s.heap.size ≤ q → A q := fun q h => by rw [← hAe]; exact Or.inr h
  have hS : va_S A s.heap s.heap [] := va_S.rf
  have hK := hE.1
  have hP : va_P D vwCl [(ma 0, .inr (11, [.ref (ma 1), .ref (ma 2), .int 0, .long 0, .long 1, .ref (ma 3), .ref (ma 4), .ref (ma 5), .ref (ma 6), .ref (ma 7), .int 0, .int 0, .int 0, .int 0, .int 0, .int 0, .int (-1), .int (-1), .int 0, .int 0, .int 0, .ref (ma 8), .int 0, .int 0, .int (-1), .int 0, .int 0, .int 0, .ref (ma 9), .int 0, .int 0, .ref (ma 10), .ref (ma 11), .ref (ma 12), .int 0, .int 0]))] s.heap := hP
  have hl := lv_entry ([.ref (ma 0), .int 0, .int 300]) (n := 4) (Nat.le_of_ble_eq_true rfl)
  rw [lg_entry_eq]
  generalize (lg_sl ([.ref (ma 0), .int 0, .int 300]) ++ List.replicate (4 - (lg_sl ([.ref (ma 0), .int 0, .int 300])).length) Slot.unset).toArray = ls at hl ⊢
  have hl : lv_has ls 4 [(0, .ref (ma 0)), (1, .int 0), (2, .int 300)] := hl
  refine lv_iload_n hx hb dX12_begins_0 rfl (lv_at hl 1 rfl) ?_
  refine lv_if_lt (tgt := 17) hx hb dX12_begins_1 (by decide) (fun h => absurd h (by decide)) (fun _ => ?_)
  refine lv_iload_n hx hb dX12_begins_4 rfl (lv_at hl 1 rfl) ?_
  refine lv_aload_n hx hb dX12_begins_5 rfl (lv_at hl 0 rfl) ?_
  refine va_get (D := D) (ci := 11) (v := .int 0) (C := RX12) (T := TX12) (N := 36) hx hb hts im_begins300_X12 hown hK hP 0 rfl rfl 10 (by decide) (hts (.fieldLink RX12 96 "SaltStreetModel" "taped" "I") (List.mem_of_getElem? (i := 1) rfl)) (fun _ h9 => h9) rfl dX12_begins_6 ?_
  refine lv_icmp_gt (tgt := 17) hx hb dX12_begins_9 (by decide) (fun h => absurd h (by decide)) (fun _ => ?_)
  refine lv_iload_n hx hb dX12_begins_12 rfl (lv_at hl 1 rfl) ?_
  refine lv_iload_n hx hb dX12_begins_13 rfl (lv_at hl 2 rfl) ?_
  refine lv_icmp_le (tgt := 19) hx hb dX12_begins_14 (by decide) (fun _ => ?_) (fun h => absurd (by decide) h)
  refine lv_aload_n hx hb dX12_begins_19 rfl (lv_at hl 0 rfl) ?_
  refine lv_iload_n hx hb dX12_begins_20 rfl (lv_at hl 1 rfl) ?_
  refine va_put (D := D) (ci := 11) (v := .int 0) (ty := .int) (C := RX12) (T := TX12) (N := 36) hx hb hts im_begins300_X12 tyX12 tyX12_ok nmX12 hown hK hP hD hS 0 rfl rfl 11 (by decide) (hts (.fieldLink RX12 102 "SaltStreetModel" "size" "I") (List.mem_of_getElem? (i := 2) rfl)) (fun _ h9 => h9) rfl (by decide +kernel) rfl rfl (Nat.le_of_ble_eq_true rfl) dX12_begins_21 (fun H locs hP hD hS => ?_)
  have hP : va_P D vwCl [(ma 0, .inr (11, [.ref (ma 1), .ref (ma 2), .int 0, .long 0, .long 1, .ref (ma 3), .ref (ma 4), .ref (ma 5), .ref (ma 6), .ref (ma 7), .int 0, .int 0, .int 0, .int 0, .int 0, .int 0, .int (-1), .int (-1), .int 0, .int 0, .int 0, .ref (ma 8), .int 0, .int 0, .int (-1), .int 0, .int 0, .int 0, .ref (ma 9), .int 0, .int 0, .ref (ma 10), .ref (ma 11), .ref (ma 12), .int 0, .int 0]))] H := hP
  have hD : va_D A [(ma 0, .inr (11, [.ref (ma 1), .ref (ma 2), .int 0, .long 0, .long 1, .ref (ma 3), .ref (ma 4), .ref (ma 5), .ref (ma 6), .ref (ma 7), .int 0, .int 0, .int 0, .int 0, .int 0, .int 0, .int (-1), .int (-1), .int 0, .int 0, .int 0, .ref (ma 8), .int 0, .int 0, .int (-1), .int 0, .int 0, .int 0, .ref (ma 9), .int 0, .int 0, .ref (ma 10), .ref (ma 11), .ref (ma 12), .int 0, .int 0]))] := hD
  refine lv_iconst (v := 0) hx hb dX12_begins_24 (by decide) ?_
  refine lv_istore_n (lv' := [(3, .int 0), (0, .ref (ma 0)), (1, .int 0), (2, .int 300)]) hx hb dX12_begins_25 rfl hl (by decide) rfl (fun ls hl => ?_)
  refine lv_iload_n hx hb dX12_begins_26 rfl (lv_at hl 0 rfl) ?_
  refine lv_iload_n hx hb dX12_begins_27 rfl (lv_at hl 2 rfl) ?_
  refine lv_icmp_ge (tgt := 49) hx hb dX12_begins_28 (by decide) (fun _ => ?_) (fun h => absurd (by decide) h)
  refine lv_aload_n hx hb dX12_begins_49 rfl (lv_at hl 1 rfl) ?_
  refine lv_iconst (v := 0) hx hb dX12_begins_50 (by decide) ?_
  refine va_put (D := D) (ci := 11) (v := .int 0) (ty := .int) (C := RX12) (T := TX12) (N := 36) hx hb hts im_begins300_X12 tyX12 tyX12_ok nmX12 hown hK hP hD hS 0 rfl rfl 10 (by decide) (hts (.fieldLink RX12 96 "SaltStreetModel" "taped" "I") (List.mem_of_getElem? (i := 1) rfl)) (fun _ h9 => h9) rfl (by decide +kernel) rfl rfl (Nat.le_of_ble_eq_true rfl) dX12_begins_51 (fun H locs hP hD hS => ?_)
  have hP : va_P D vwCl [(ma 0, .inr (11, [.ref (ma 1), .ref (ma 2), .int 0, .long 0, .long 1, .ref (ma 3), .ref (ma 4), .ref (ma 5), .ref (ma 6), .ref (ma 7), .int 0, .int 0, .int 0, .int 0, .int 0, .int 0, .int (-1), .int (-1), .int 0, .int 0, .int 0, .ref (ma 8), .int 0, .int 0, .int (-1), .int 0, .int 0, .int 0, .ref (ma 9), .int 0, .int 0, .ref (ma 10), .ref (ma 11), .ref (ma 12), .int 0, .int 0]))] H := hP
  have hD : va_D A [(ma 0, .inr (11, [.ref (ma 1), .ref (ma 2), .int 0, .long 0, .long 1, .ref (ma 3), .ref (ma 4), .ref (ma 5), .ref (ma 6), .ref (ma 7), .int 0, .int 0, .int 0, .int 0, .int 0, .int 0, .int (-1), .int (-1), .int 0, .int 0, .int 0, .ref (ma 8), .int 0, .int 0, .int (-1), .int 0, .int 0, .int 0, .ref (ma 9), .int 0, .int 0, .ref (ma 10), .ref (ma 11), .ref (ma 12), .int 0, .int 0]))] := hD
  refine lv_aload_n hx hb dX12_begins_54 rfl (lv_at hl 1 rfl) ?_
  refine lv_iconst (v := 0) hx hb dX12_begins_55 (by decide) ?_
  refine va_put (D := D) (ci := 11) (v := .int 0) (ty := .int) (C := RX12) (T := TX12) (N := 36) hx hb hts im_begins300_X12 tyX12 tyX12_ok nmX12 hown hK hP hD hS 0 rfl rfl 18 (by decide) (hts (.fieldLink RX12 142 "SaltStreetModel" "faults" "I") (List.mem_of_getElem? (i := 3) rfl)) (fun _ h9 => h9) rfl (by decide +kernel) rfl rfl (Nat.le_of_ble_eq_true rfl) dX12_begins_56 (fun H locs hP hD hS => ?_)
  have hP : va_P D vwCl [(ma 0, .inr (11, [.ref (ma 1), .ref (ma 2), .int 0, .long 0, .long 1, .ref (ma 3), .ref (ma 4), .ref (ma 5), .ref (ma 6), .ref (ma 7), .int 0, .int 0, .int 0, .int 0, .int 0, .int 0, .int (-1), .int (-1), .int 0, .int 0, .int 0, .ref (ma 8), .int 0, .int 0, .int (-1), .int 0, .int 0, .int 0, .ref (ma 9), .int 0, .int 0, .ref (ma 10), .ref (ma 11), .ref (ma 12), .int 0, .int 0]))] H := hP
  have hD : va_D A [(ma 0, .inr (11, [.ref (ma 1), .ref (ma 2), .int 0, .long 0, .long 1, .ref (ma 3), .ref (ma 4), .ref (ma 5), .ref (ma 6), .ref (ma 7), .int 0, .int 0, .int 0, .int 0, .int 0, .int 0, .int (-1), .int (-1), .int 0, .int 0, .int 0, .ref (ma 8), .int 0, .int 0, .int (-1), .int 0, .int 0, .int 0, .ref (ma 9), .int 0, .int 0, .ref (ma 10), .ref (ma 11), .ref (ma 12), .int 0, .int 0]))] := hD
  refine lv_aload_n hx hb dX12_begins_59 rfl (lv_at hl 1 rfl) ?_
  refine lv_iconst (v := (-1)) hx hb dX12_begins_60 (by decide) ?_
  refine va_put (D := D) (ci := 11) (v := .int (-1)) (ty := .int) (C := RX12) (T := TX12) (N := 36) hx hb hts im_begins300_X12 tyX12 tyX12_ok nmX12 hown hK hP hD hS 0 rfl rfl 17 (by decide) (hts (.fieldLink RX12 41 "SaltStreetModel" "faultPlace" "I") (List.mem_of_getElem? (i := 4) rfl)) (fun _ h9 => h9) rfl (by decide +kernel) rfl rfl (Nat.le_of_ble_eq_true rfl) dX12_begins_61 (fun H locs hP hD hS => ?_)
  have hP : va_P D vwCl [(ma 0, .inr (11, [.ref (ma 1), .ref (ma 2), .int 0, .long 0, .long 1, .ref (ma 3), .ref (ma 4), .ref (ma 5), .ref (ma 6), .ref (ma 7), .int 0, .int 0, .int 0, .int 0, .int 0, .int 0, .int (-1), .int (-1), .int 0, .int 0, .int 0, .ref (ma 8), .int 0, .int 0, .int (-1), .int 0, .int 0, .int 0, .ref (ma 9), .int 0, .int 0, .ref (ma 10), .ref (ma 11), .ref (ma 12), .int 0, .int 0]))] H := hP
  have hD : va_D A [(ma 0, .inr (11, [.ref (ma 1), .ref (ma 2), .int 0, .long 0, .long 1, .ref (ma 3), .ref (ma 4), .ref (ma 5), .ref (ma 6), .ref (ma 7), .int 0, .int 0, .int 0, .int 0, .int 0, .int 0, .int (-1), .int (-1), .int 0, .int 0, .int 0, .ref (ma 8), .int 0, .int 0, .int (-1), .int 0, .int 0, .int 0, .ref (ma 9), .int 0, .int 0, .ref (ma 10), .ref (ma 11), .ref (ma 12), .int 0, .int 0]))] := hD
  refine lv_aload_n hx hb dX12_begins_64 rfl (lv_at hl 1 rfl) ?_
  refine lv_iconst (v := 0) hx hb dX12_begins_65 (by decide) ?_
  refine va_put (D := D) (ci := 11) (v := .int 0) (ty := .int) (C := RX12) (T := TX12) (N := 36) hx hb hts im_begins300_X12 tyX12 tyX12_ok nmX12 hown hK hP hD hS 0 rfl rfl 14 (by decide) (hts (.fieldLink RX12 105 "SaltStreetModel" "end" "I") (List.mem_of_getElem? (i := 5) rfl)) (fun _ h9 => h9) rfl (by decide +kernel) rfl rfl (Nat.le_of_ble_eq_true rfl) dX12_begins_66 (fun H locs hP hD hS => ?_)
  have hP : va_P D vwCl [(ma 0, .inr (11, [.ref (ma 1), .ref (ma 2), .int 0, .long 0, .long 1, .ref (ma 3), .ref (ma 4), .ref (ma 5), .ref (ma 6), .ref (ma 7), .int 0, .int 0, .int 0, .int 0, .int 0, .int 0, .int (-1), .int (-1), .int 0, .int 0, .int 0, .ref (ma 8), .int 0, .int 0, .int (-1), .int 0, .int 0, .int 0, .ref (ma 9), .int 0, .int 0, .ref (ma 10), .ref (ma 11), .ref (ma 12), .int 0, .int 0]))] H := hP
  have hD : va_D A [(ma 0, .inr (11, [.ref (ma 1), .ref (ma 2), .int 0, .long 0, .long 1, .ref (ma 3), .ref (ma 4), .ref (ma 5), .ref (ma 6), .ref (ma 7), .int 0, .int 0, .int 0, .int 0, .int 0, .int 0, .int (-1), .int (-1), .int 0, .int 0, .int 0, .ref (ma 8), .int 0, .int 0, .int (-1), .int 0, .int 0, .int 0, .ref (ma 9), .int 0, .int 0, .ref (ma 10), .ref (ma 11), .ref (ma 12), .int 0, .int 0]))] := hD
  refine lv_aload_n hx hb dX12_begins_69 rfl (lv_at hl 1 rfl) ?_
  refine lv_iconst (v := 0) hx hb dX12_begins_70 (by decide) ?_
  refine va_put (D := D) (ci := 11) (v := .int 0) (ty := .int) (C := RX12) (T := TX12) (N := 36) hx hb hts im_begins300_X12 tyX12 tyX12_ok nmX12 hown hK hP hD hS 0 rfl rfl 19 (by decide) (hts (.fieldLink RX12 145 "SaltStreetModel" "seen" "I") (List.mem_of_getElem? (i := 6) rfl)) (fun _ h9 => h9) rfl (by decide +kernel) rfl rfl (Nat.le_of_ble_eq_true rfl) dX12_begins_71 (fun H locs hP hD hS => ?_)
  have hP : va_P D vwCl [(ma 0, .inr (11, [.ref (ma 1), .ref (ma 2), .int 0, .long 0, .long 1, .ref (ma 3), .ref (ma 4), .ref (ma 5), .ref (ma 6), .ref (ma 7), .int 0, .int 0, .int 0, .int 0, .int 0, .int 0, .int (-1), .int (-1), .int 0, .int 0, .int 0, .ref (ma 8), .int 0, .int 0, .int (-1), .int 0, .int 0, .int 0, .ref (ma 9), .int 0, .int 0, .ref (ma 10), .ref (ma 11), .ref (ma 12), .int 0, .int 0]))] H := hP
  have hD : va_D A [(ma 0, .inr (11, [.ref (ma 1), .ref (ma 2), .int 0, .long 0, .long 1, .ref (ma 3), .ref (ma 4), .ref (ma 5), .ref (ma 6), .ref (ma 7), .int 0, .int 0, .int 0, .int 0, .int 0, .int 0, .int (-1), .int (-1), .int 0, .int 0, .int 0, .ref (ma 8), .int 0, .int 0, .int (-1), .int 0, .int 0, .int 0, .ref (ma 9), .int 0, .int 0, .ref (ma 10), .ref (ma 11), .ref (ma 12), .int 0, .int 0]))] := hD
  refine lv_aload_n hx hb dX12_begins_74 rfl (lv_at hl 1 rfl) ?_
  have hPc := hP.sub (ws' := [(ma 0, .inr (11, [.ref (ma 1), .ref (ma 2), .int 0, .long 0, .long 1, .ref (ma 3), .ref (ma 4), .ref (ma 5), .ref (ma 6), .ref (ma 7), .int 0, .int 0, .int 0, .int 0, .int 0, .int 0, .int (-1), .int (-1), .int 0, .int 0, .int 0, .ref (ma 8), .int 0, .int 0, .int (-1), .int 0, .int 0, .int 0, .ref (ma 9), .int 0, .int 0, .ref (ma 10), .ref (ma 11), .ref (ma 12), .int 0, .int 0]))]) [0] rfl
  have hDc := hD.sub (ws' := [(ma 0, .inr (11, [.ref (ma 1), .ref (ma 2), .int 0, .long 0, .long 1, .ref (ma 3), .ref (ma 4), .ref (ma 5), .ref (ma 6), .ref (ma 7), .int 0, .int 0, .int 0, .int 0, .int 0, .int 0, .int (-1), .int (-1), .int 0, .int 0, .int 0, .ref (ma 8), .int 0, .int 0, .int (-1), .int 0, .int 0, .int 0, .ref (ma 9), .int 0, .int 0, .ref (ma 10), .ref (ma 11), .ref (ma 12), .int 0, .int 0]))]) [0] (by decide) rfl
  have hFc := va_free (wc := [(ma 0, .inr (11, [.ref (ma 1), .ref (ma 2), .int 0, .long 0, .long 1, .ref (ma 3), .ref (ma 4), .ref (ma 5), .ref (ma 6), .ref (ma 7), .int 0, .int 0, .int 0, .int 0, .int 0, .int 0, .int (-1), .int (-1), .int 0, .int 0, .int 0, .ref (ma 8), .int 0, .int 0, .int (-1), .int 0, .int 0, .int 0, .ref (ma 9), .int 0, .int 0, .ref (ma 10), .ref (ma 11), .ref (ma 12), .int 0, .int 0]))]) hD hS hA [0] rfl
  refine va_callv (va_runV (As := []) (rest := []) ⟨hx, hb, hml, hown, hts⟩ (m_ahead l D kc H.size ma) (cwV 0 hts gm_begins300_148_m_ahead rfl rfl rfl (by decide +kernel) ⟨Nat.le_of_ble_eq_true rfl, Nat.le_of_ble_eq_true rfl⟩) (preV_ok hPc hDc hE (ci := 11) (q0 := 0) rfl rfl) rfl rfl hl.1 rfl (lv_room (Nat.le_of_ble_eq_true rfl)) dX12_begins_75 ⟨Nat.le_of_ble_eq_true rfl, Nat.le_of_ble_eq_true rfl⟩) hS (fun q _ h => hFc q h) hFc (fun u9 t9 H locs ht hvm hw hB hz1 hk1 hS => ?_)
  obtain ⟨hP1, hD1⟩ := hB
  rw [ht] at hP1
  obtain ⟨hP, hD⟩ := va_join (wr := []) (w1 := [(ma 0, .inr (11, [.ref (ma 1), .ref (ma 2), .int 0, .long 0, .long 1, .ref (ma 3), .ref (ma 4), .ref (ma 5), .ref (ma 6), .ref (ma 7), .int 0, .int 0, .int 0, .int 0, .int 0, .int (-1), .int (-1), .int (-1), .int 0, .int 0, .int 0, .ref (ma 8), .int 0, .int 0, .int (-1), .int 0, .int 0, .int 0, .ref (ma 9), .int 0, .int 0, .ref (ma 10), .ref (ma 11), .ref (ma 12), .int 0, .int 0]))]) hP hD [0] [] rfl rfl (by decide) (by decide) hk1 hFc hP1 hD1
  have hP : va_P D vwCl [(ma 0, .inr (11, [.ref (ma 1), .ref (ma 2), .int 0, .long 0, .long 1, .ref (ma 3), .ref (ma 4), .ref (ma 5), .ref (ma 6), .ref (ma 7), .int 0, .int 0, .int 0, .int 0, .int 0, .int (-1), .int (-1), .int (-1), .int 0, .int 0, .int 0, .ref (ma 8), .int 0, .int 0, .int (-1), .int 0, .int 0, .int 0, .ref (ma 9), .int 0, .int 0, .ref (ma 10), .ref (ma 11), .ref (ma 12), .int 0, .int 0]))] H := hP
  have hD : va_D A [(ma 0, .inr (11, [.ref (ma 1), .ref (ma 2), .int 0, .long 0, .long 1, .ref (ma 3), .ref (ma 4), .ref (ma 5), .ref (ma 6), .ref (ma 7), .int 0, .int 0, .int 0, .int 0, .int 0, .int (-1), .int (-1), .int (-1), .int 0, .int 0, .int 0, .ref (ma 8), .int 0, .int 0, .int (-1), .int 0, .int 0, .int 0, .ref (ma 9), .int 0, .int 0, .ref (ma 10), .ref (ma 11), .ref (ma 12), .int 0, .int 0]))] := hD
  refine lv_iconst (v := 1) hx hb dX12_begins_78 (by decide) ?_
  have hP9 := hP.sub (ws' := [(ma 0, .inr (11, [.ref (ma 1), .ref (ma 2), .int 0, .long 0, .long 1, .ref (ma 3), .ref (ma 4), .ref (ma 5), .ref (ma 6), .ref (ma 7), .int 0, .int 0, .int 0, .int 0, .int 0, .int (-1), .int (-1), .int (-1), .int 0, .int 0, .int 0, .ref (ma 8), .int 0, .int 0, .int (-1), .int 0, .int 0, .int 0, .ref (ma 9), .int 0, .int 0, .ref (ma 10), .ref (ma 11), .ref (ma 12), .int 0, .int 0]))]) [0] rfl
  have hD9 := hD.sub (ws' := [(ma 0, .inr (11, [.ref (ma 1), .ref (ma 2), .int 0, .long 0, .long 1, .ref (ma 3), .ref (ma 4), .ref (ma 5), .ref (ma 6), .ref (ma 7), .int 0, .int 0, .int 0, .int 0, .int 0, .int (-1), .int (-1), .int (-1), .int 0, .int 0, .int 0, .ref (ma 8), .int 0, .int 0, .int (-1), .int 0, .int 0, .int 0, .ref (ma 9), .int 0, .int 0, .ref (ma 10), .ref (ma 11), .ref (ma 12), .int 0, .int 0]))]) [0] (by decide) rfl
  exact W.zret (v := 1) hx hb hr rfl (fun t9 ht hW => ⟨⟨1, (), rfl, rfl, ⟨by rw [ht]; exact hP9, hD9⟩⟩, hS.F ht⟩) hS.2.2 dX12_begins_79
theorem dX12_begins_17 : decode cX12_begins 17 = .ok (.iconst 0, 1) := by decide +kernel
theorem dX12_begins_18 : decode cX12_begins 18 = .ok (.ireturn, 1) := by decide +kernel
def vdm_beginsNo : List Cond := [.code yX12_begins cX12_begins 4 (some .boolean), .fieldLink RX12 96 "SaltStreetModel" "taped" "I"]
def vm_beginsNo : List Cond := vdm_beginsNo ++ (wsX120 ++ ([] : List Cond))
theorem im_beginsNo_X12 : ∀ w ∈ wsX120, w ∈ vm_beginsNo := fun _ h => List.mem_append_right _ (List.mem_append_left _ h)
set_option maxHeartbeats 4000000 in
set_option maxRecDepth 100000 in
theorem m_beginsNo (l : Launch) (D : va_G) (kc : Nat → ClassId) (sz : Nat) (ma : Nat → Nat) (q : Int32) (mo : Int32) (hq : bW q 0 0 = 0) : Met l yX12_begins vm_beginsNo ({ frames := 0, cells := 0, slots := 0, locals := 0 }) (va_Pc [.ref (ma 0), .int q, .int mo] (wPre D kc [(ma 0, .inr (11, [.ref (ma 1), .ref (ma 2), .int 0, .long 0, .long 1, .ref (ma 3), .ref (ma 4), .ref (ma 5), .ref (ma 6), .ref (ma 7), .int 0, .int 0, .int 0, .int 0, .int 0, .int 0, .int (-1), .int (-1), .int 0, .int 0, .int 0, .ref (ma 8), .int 0, .int 0, .int (-1), .int 0, .int 0, .int 0, .ref (ma 9), .int 0, .int 0, .ref (ma 10), .ref (ma 11), .ref (ma 12), .int 0, .int 0]))] sz)) (va_Qi (fun (r : Int32) (_ : Unit) => r = 0) (wPost D [(ma 0, .inr (11, [.ref (ma 1), .ref (ma 2), .int 0, .long 0, .long 1, .ref (ma 3), .ref (ma 4), .ref (ma 5), .ref (ma 6), .ref (ma 7), .int 0, .int 0, .int 0, .int 0, .int 0, .int 0, .int (-1), .int (-1), .int 0, .int 0, .int 0, .ref (ma 8), .int 0, .int 0, .int (-1), .int 0, .int 0, .int 0, .ref (ma 9), .int 0, .int 0, .ref (ma 10), .ref (ma 11), .ref (ma 12), .int 0, .int 0]))] (va_A [(ma 0, .inr (11, [.ref (ma 1), .ref (ma 2), .int 0, .long 0, .long 1, .ref (ma 3), .ref (ma 4), .ref (ma 5), .ref (ma 6), .ref (ma 7), .int 0, .int 0, .int 0, .int 0, .int 0, .int 0, .int (-1), .int (-1), .int 0, .int 0, .int 0, .ref (ma 8), .int 0, .int 0, .int (-1), .int 0, .int 0, .int 0, .ref (ma 9), .int 0, .int 0, .ref (ma 10), .ref (ma 11), .ref (ma 12), .int 0, .int 0]))] sz)) (va_A [(ma 0, .inr (11, [.ref (ma 1), .ref (ma 2), .int 0, .long 0, .long 1, .ref (ma 3), .ref (ma 4), .ref (ma 5), .ref (ma 6), .ref (ma 7), .int 0, .int 0, .int 0, .int 0, .int 0, .int 0, .int (-1), .int (-1), .int 0, .int 0, .int 0, .ref (ma 8), .int 0, .int 0, .int (-1), .int 0, .int 0, .int 0, .ref (ma 9), .int 0, .int 0, .ref (ma 10), .ref (ma 11), .ref (ma 12), .int 0, .int 0]))] sz)) 0 0 (va_A [(ma 0, .inr (11, [.ref (ma 1), .ref (ma 2), .int 0, .long 0, .long 1, .ref (ma 3), .ref (ma 4), .ref (ma 5), .ref (ma 6), .ref (ma 7), .int 0, .int 0, .int 0, .int 0, .int 0, .int 0, .int (-1), .int (-1), .int 0, .int 0, .int 0, .ref (ma 8), .int 0, .int 0, .int (-1), .int 0, .int 0, .int 0, .ref (ma 9), .int 0, .int 0, .ref (ma 10), .ref (ma 11), .ref (ma 12), .int 0, .int 0]))] sz) := by
  refine Met.ofW (cc := cX12_begins) (maxL := 4) (ret := (some .boolean)) (by decide) rfl ?_
  intro p e s m args below meth c s₁ B hml hv
  obtain ⟨rfl, hsz, hP, hE, hD0⟩ := hv
  have hx := B.exec
  have hb := B.bytes
  have hr := B.returns
  have hts := atoms_spec (ws := vm_beginsNo) B.pre
  have hown : s.vm.findClass RX12 = some m.cls := findClass_of_methodNamed B.named
  have hlocks := B.notSynchronized
  subst hsz
  have hD := hD0.self (sz := s.heap.size)
  generalize hAe : va_A [(ma 0, .inr (11, [.ref (ma 1), .ref (ma 2), .int 0, .long 0, .long 1, .ref (ma 3), .ref (ma 4), .ref (ma 5), .ref (ma 6), .ref (ma 7), .int 0, .int 0, .int 0, .int 0, .int 0, .int 0, .int (-1), .int (-1), .int 0, .int 0, .int 0, .ref (ma 8), .int 0, .int 0, .int (-1), .int 0, .int 0, .int 0, .ref (ma 9), .int 0, .int 0, .ref (ma 10), .ref (ma 11), .ref (ma 12), .int 0, .int 0]))] s.heap.size = A at hD ⊢
  have hA : ∀ q : Nat, s.heap.size ≤ q → A q := fun q h => by rw [← hAe]; exact Or.inr h
  have hS : va_S A s.heap s.heap [] := va_S.rf
  have hK := hE.1
  have hP : va_P D vwCl [(ma 0, .inr (11, [.ref (ma 1), .ref (ma 2), .int 0, .long 0, .long 1, .ref (ma 3), .ref (ma 4), .ref (ma 5), .ref (ma 6), .ref (ma 7), .int 0, .int 0, .int 0, .int 0, .int 0, .int 0, .int (-1), .int (-1), .int 0, .int 0, .int 0, .ref (ma 8), .int 0, .int 0, .int (-1), .int 0, .int 0, .int 0, .ref (ma 9), .int 0, .int 0, .ref (ma 10), .ref (ma 11), .ref (ma 12), .int 0, .int 0]))] s.heap := hP
  have hl := lv_entry ([.ref (ma 0), .int q, .int mo]) (n := 4) (Nat.le_of_ble_eq_true rfl)
  rw [lg_entry_eq]
  generalize (lg_sl ([.ref (ma 0), .int q, .int mo]) ++ List.replicate (4 - (lg_sl ([.ref (ma 0), .int q, .int mo])).length) Slot.unset).toArray = ls at hl ⊢
  have hl : lv_has ls 4 [(0, .ref (ma 0)), (1, .int q), (2, .int mo)] := hl
  refine lv_iload_n hx hb dX12_begins_0 rfl (lv_at hl 1 rfl) ?_
  refine lv_if_lt (tgt := 17) hx hb dX12_begins_1 (by decide) (fun c_1 => ?_) (fun c_1 => ?_)
  · refine lv_iconst (v := 0) hx hb dX12_begins_17 (by decide) ?_
    have hP9 := hP.sub (ws' := [(ma 0, .inr (11, [.ref (ma 1), .ref (ma 2), .int 0, .long 0, .long 1, .ref (ma 3), .ref (ma 4), .ref (ma 5), .ref (ma 6), .ref (ma 7), .int 0, .int 0, .int 0, .int 0, .int 0, .int 0, .int (-1), .int (-1), .int 0, .int 0, .int 0, .ref (ma 8), .int 0, .int 0, .int (-1), .int 0, .int 0, .int 0, .ref (ma 9), .int 0, .int 0, .ref (ma 10), .ref (ma 11), .ref (ma 12), .int 0, .int 0]))]) [0] rfl
    have hD9 := hD.sub (ws' := [(ma 0, .inr (11, [.ref (ma 1), .ref (ma 2), .int 0, .long 0, .long 1, .ref (ma 3), .ref (ma 4), .ref (ma 5), .ref (ma 6), .ref (ma 7), .int 0, .int 0, .int 0, .int 0, .int 0, .int 0, .int (-1), .int (-1), .int 0, .int 0, .int 0, .ref (ma 8), .int 0, .int 0, .int (-1), .int 0, .int 0, .int 0, .ref (ma 9), .int 0, .int 0, .ref (ma 10), .ref (ma 11), .ref (ma 12), .int 0, .int 0]))]) [0] (by decide) rfl
    exact W.zret (v := 0) hx hb hr rfl (fun t9 ht hW => ⟨⟨0, (), rfl, rfl, ⟨by rw [ht]; exact hP9, hD9⟩⟩, hS.F ht⟩) hS.2.2 dX12_begins_18
  · refine lv_iload_n hx hb dX12_begins_4 rfl (lv_at hl 1 rfl) ?_
    refine lv_aload_n hx hb dX12_begins_5 rfl (lv_at hl 0 rfl) ?_
    refine va_get (D := D) (ci := 11) (v := .int 0) (C := RX12) (T := TX12) (N := 36) hx hb hts im_beginsNo_X12 hown hK hP 0 rfl rfl 10 (by decide) (hts (.fieldLink RX12 96 "SaltStreetModel" "taped" "I") (List.mem_of_getElem? (i := 1) rfl)) (fun _ h9 => h9) rfl dX12_begins_6 ?_
    refine lv_icmp_gt (tgt := 17) hx hb dX12_begins_9 (by decide) (fun _ => ?_) (fun h => absurd (z_out hq c_1) h)
    refine lv_iconst (v := 0) hx hb dX12_begins_17 (by decide) ?_
    have hP9 := hP.sub (ws' := [(ma 0, .inr (11, [.ref (ma 1), .ref (ma 2), .int 0, .long 0, .long 1, .ref (ma 3), .ref (ma 4), .ref (ma 5), .ref (ma 6), .ref (ma 7), .int 0, .int 0, .int 0, .int 0, .int 0, .int 0, .int (-1), .int (-1), .int 0, .int 0, .int 0, .ref (ma 8), .int 0, .int 0, .int (-1), .int 0, .int 0, .int 0, .ref (ma 9), .int 0, .int 0, .ref (ma 10), .ref (ma 11), .ref (ma 12), .int 0, .int 0]))]) [0] rfl
    have hD9 := hD.sub (ws' := [(ma 0, .inr (11, [.ref (ma 1), .ref (ma 2), .int 0, .long 0, .long 1, .ref (ma 3), .ref (ma 4), .ref (ma 5), .ref (ma 6), .ref (ma 7), .int 0, .int 0, .int 0, .int 0, .int 0, .int 0, .int (-1), .int (-1), .int 0, .int 0, .int 0, .ref (ma 8), .int 0, .int 0, .int (-1), .int 0, .int 0, .int 0, .ref (ma 9), .int 0, .int 0, .ref (ma 10), .ref (ma 11), .ref (ma 12), .int 0, .int 0]))]) [0] (by decide) rfl
    exact W.zret (v := 0) hx hb hr rfl (fun t9 ht hW => ⟨⟨0, (), rfl, rfl, ⟨by rw [ht]; exact hP9, hD9⟩⟩, hS.F ht⟩) hS.2.2 dX12_begins_18
theorem dX12_plain_0 : decode cX12_plain 0 = .ok (.iconst 0, 1) := by decide +kernel
theorem dX12_plain_1 : decode cX12_plain 1 = .ok (.istore_n 2, 1) := by decide +kernel
theorem dX12_plain_2 : decode cX12_plain 2 = .ok (.iload_n 2, 1) := by decide +kernel
theorem dX12_plain_3 : decode cX12_plain 3 = .ok (.sipush 480, 3) := by decide +kernel
theorem dX12_plain_6 : decode cX12_plain 6 = .ok (.if_icmp .ge 18, 3) := by decide +kernel
theorem dX12_plain_9 : decode cX12_plain 9 = .ok (.aload_n 0, 1) := by decide +kernel
theorem dX12_plain_10 : decode cX12_plain 10 = .ok (.getfield 7, 3) := by decide +kernel
theorem dX12_plain_13 : decode cX12_plain 13 = .ok (.iload_n 1, 1) := by decide +kernel
theorem dX12_plain_14 : decode cX12_plain 14 = .ok (.iload_n 2, 1) := by decide +kernel
theorem dX12_plain_15 : decode cX12_plain 15 = .ok (.iadd, 1) := by decide +kernel
theorem dX12_plain_16 : decode cX12_plain 16 = .ok (.iconst 0, 1) := by decide +kernel
theorem dX12_plain_17 : decode cX12_plain 17 = .ok (.iastore, 1) := by decide +kernel
theorem dX12_plain_18 : decode cX12_plain 18 = .ok (.iinc 2 1, 3) := by decide +kernel
theorem dX12_plain_21 : decode cX12_plain 21 = .ok (.goto (-19), 3) := by decide +kernel
theorem dX12_plain_24 : decode cX12_plain 24 = .ok (.aload_n 0, 1) := by decide +kernel
theorem dX12_plain_25 : decode cX12_plain 25 = .ok (.getfield 7, 3) := by decide +kernel
theorem dX12_plain_28 : decode cX12_plain 28 = .ok (.iload_n 1, 1) := by decide +kernel
theorem dX12_plain_29 : decode cX12_plain 29 = .ok (.bipush 11, 2) := by decide +kernel
theorem dX12_plain_31 : decode cX12_plain 31 = .ok (.iadd, 1) := by decide +kernel
theorem dX12_plain_32 : decode cX12_plain 32 = .ok (.iconst (-1), 1) := by decide +kernel
theorem dX12_plain_33 : decode cX12_plain 33 = .ok (.iastore, 1) := by decide +kernel
theorem dX12_plain_34 : decode cX12_plain 34 = .ok (.aload_n 0, 1) := by decide +kernel
theorem dX12_plain_35 : decode cX12_plain 35 = .ok (.getfield 7, 3) := by decide +kernel
theorem dX12_plain_38 : decode cX12_plain 38 = .ok (.iload_n 1, 1) := by decide +kernel
theorem dX12_plain_39 : decode cX12_plain 39 = .ok (.bipush 13, 2) := by decide +kernel
theorem dX12_plain_41 : decode cX12_plain 41 = .ok (.iadd, 1) := by decide +kernel
theorem dX12_plain_42 : decode cX12_plain 42 = .ok (.iconst 5, 1) := by decide +kernel
theorem dX12_plain_43 : decode cX12_plain 43 = .ok (.iastore, 1) := by decide +kernel
theorem dX12_plain_44 : decode cX12_plain 44 = .ok (.return_, 1) := by decide +kernel
def vdm_plainN : List Cond := [.code yX12_plain cX12_plain 3 none, .fieldLink RX12 7 "SaltStreetModel" "at" "[I"]
def vm_plainN : List Cond := vdm_plainN ++ (wsX120 ++ ([] : List Cond))
theorem im_plainN_X12 : ∀ w ∈ wsX120, w ∈ vm_plainN := fun _ h => List.mem_append_right _ (List.mem_append_left _ h)
set_option maxHeartbeats 4000000 in
set_option maxRecDepth 100000 in
theorem lp_plainN_6 {p : Program} {l : Launch} {e : Env} {R : Room} {s : State} {m : MethodId} {args : Array Value} {below : List Frame} {meth : Method} {c : Code} {cells slots : Nat} {Q : State → Prop} {A : Nat → Prop} {D : va_G} {kc : Nat → ClassId} (ma : Nat → Nat) (g_status : Int32) (g_top : Int64) (g_bottom : Int64) (g_taped : Int32) (g_size : Int32) (g_token : Int32) (g_from : Int32) (g_end : Int32) (g_value : Int32) (g_faultKind : Int32) (g_faultPlace : Int32) (g_faults : Int32) (g_seen : Int32) (g_told0 : Int32) (g_depth : Int32) (g_counted : Int32) (g_easy : Int32) (g_ended : Int32) (g_began : Int32) (g_lastPrice : Int32) (g_drawn : Int32) (g_ranSteps : Int32) (g_isTold : Int32) (g_marks : Int32) (hx : p.tables.exec = Jvm.exec) (hb : c.code = cX12_plain) (hml : c.maxLocals = 3) (hown : s.vm.findClass RX12 = some m.cls) (hts : ∀ w ∈ vm_plainN, w.before args s = true) (hE : EK D kc s) (kk : ∀ (f9 : Nat → Int32) (H : Heap) (locs : List Loc) (ls : Array Slot), (f9 1 = 0 ∧ f9 1921 = 0) → va_P D vwCl [(ma 0, .inr (11, [.ref (ma 1), .ref (ma 2), .int g_status, .long g_top, .long g_bottom, .ref (ma 3), .ref (ma 4), .ref (ma 5), .ref (ma 6), .ref (ma 7), .int g_taped, .int g_size, .int g_token, .int g_from, .int g_end, .int g_value, .int g_faultKind, .int g_faultPlace, .int g_faults, .int g_seen, .int g_told0, .ref (ma 8), .int g_depth, .int g_counted, .int g_easy, .int g_ended, .int g_began, .int g_lastPrice, .ref (ma 9), .int g_drawn, .int g_ranSteps, .ref (ma 10), .ref (ma 11), .ref (ma 12), .int g_isTold, .int g_marks])), (ma 1, .inl (kc 0, 2880, .inl f9))] H → va_D A [(ma 0, .inr (11, [.ref (ma 1), .ref (ma 2), .int g_status, .long g_top, .long g_bottom, .ref (ma 3), .ref (ma 4), .ref (ma 5), .ref (ma 6), .ref (ma 7), .int g_taped, .int g_size, .int g_token, .int g_from, .int g_end, .int g_value, .int g_faultKind, .int g_faultPlace, .int g_faults, .int g_seen, .int g_told0, .ref (ma 8), .int g_depth, .int g_counted, .int g_easy, .int g_ended, .int g_began, .int g_lastPrice, .ref (ma 9), .int g_drawn, .int g_ranSteps, .ref (ma 10), .ref (ma 11), .ref (ma 12), .int g_isTold, .int g_marks])), (ma 1, .inl (kc 0, 2880, .inl f9))] → va_S A s.heap H locs → lv_has ls 3 [(2, .int (nI 480)), (0, .ref (ma 0)), (1, .int 1920)] → W p l e R s m args below meth c H locs cells slots Q (F0 m 24 ls [])) : ∀ (n9 i9 : Nat), i9 ≤ 480 → 480 < i9 + n9 → ∀ (f9 : Nat → Int32) (H : Heap) (locs : List Loc) (ls : Array Slot), (f9 1 = 0 ∧ f9 1921 = 0) → va_P D vwCl [(ma 0, .inr (11, [.ref (ma 1), .ref (ma 2), .int g_status, .long g_top, .long g_bottom, .ref (ma 3), .ref (ma 4), .ref (ma 5), .ref (ma 6), .ref (ma 7), .int g_taped, .int g_size, .int g_token, .int g_from, .int g_end, .int g_value, .int g_faultKind, .int g_faultPlace, .int g_faults, .int g_seen, .int g_told0, .ref (ma 8), .int g_depth, .int g_counted, .int g_easy, .int g_ended, .int g_began, .int g_lastPrice, .ref (ma 9), .int g_drawn, .int g_ranSteps, .ref (ma 10), .ref (ma 11), .ref (ma 12), .int g_isTold, .int g_marks])), (ma 1, .inl (kc 0, 2880, .inl f9))] H → va_D A [(ma 0, .inr (11, [.ref (ma 1), .ref (ma 2), .int g_status, .long g_top, .long g_bottom, .ref (ma 3), .ref (ma 4), .ref (ma 5), .ref (ma 6), .ref (ma 7), .int g_taped, .int g_size, .int g_token, .int g_from, .int g_end, .int g_value, .int g_faultKind, .int g_faultPlace, .int g_faults, .int g_seen, .int g_told0, .ref (ma 8), .int g_depth, .int g_counted, .int g_easy, .int g_ended, .int g_began, .int g_lastPrice, .ref (ma 9), .int g_drawn, .int g_ranSteps, .ref (ma 10), .ref (ma 11), .ref (ma 12), .int g_isTold, .int g_marks])), (ma 1, .inl (kc 0, 2880, .inl f9))] → va_S A s.heap H locs → lv_has ls 3 [(2, .int (nI i9)), (0, .ref (ma 0)), (1, .int 1920)] → W p l e R s m args below meth c H locs cells slots Q (F0 m 2 ls []) := by
  have hK := hE.1
  intro n9
  induction n9 with
  | zero => intro i9 h1 h2; exact absurd h2 (by omega)
  | succ n9 ih =>
    intro i9 h1 h2 f9 H locs ls hI hP hD hS hl
    rcases Nat.lt_or_ge i9 480 with hlt | hge
    · refine lv_iload_n hx hb dX12_plain_2 rfl (lv_at hl 0 rfl) ?_
      refine lv_sipush (v := 480) hx hb dX12_plain_3 (by decide) ?_
      refine lv_icmp_ge (tgt := 24) hx hb dX12_plain_6 (by decide) (fun h => absurd h (nI_ge hlt (by decide))) (fun _ => ?_)
      refine lv_aload_n hx hb dX12_plain_9 rfl (lv_at hl 1 rfl) ?_
      refine va_get (D := D) (ci := 11) (v := .ref (ma 1)) (C := RX12) (T := TX12) (N := 36) hx hb hts im_plainN_X12 hown hK hP 0 rfl rfl 0 (by decide) (hts (.fieldLink RX12 7 "SaltStreetModel" "at" "[I") (List.mem_of_getElem? (i := 1) rfl)) (fun _ h9 => h9) rfl dX12_plain_10 ?_
      refine lv_iload_n hx hb dX12_plain_13 rfl (lv_at hl 2 rfl) ?_
      refine lv_iload_n hx hb dX12_plain_14 rfl (lv_at hl 0 rfl) ?_
      refine lv_iadd hx hb dX12_plain_15 ?_
      refine lv_ci (y := (nI (1920 + i9))) (nI_add _ _) ?_
      refine lv_iconst (v := 0) hx hb dX12_plain_16 (by decide) ?_
      refine va_iast hx hb hK hP hD hS 1 0 (f := f9) rfl rfl (vp_in_nI (by omega) (by decide)) dX12_plain_17 (fun H locs hP hD hS => ?_)
      have hP : va_P D vwCl [(ma 0, .inr (11, [.ref (ma 1), .ref (ma 2), .int g_status, .long g_top, .long g_bottom, .ref (ma 3), .ref (ma 4), .ref (ma 5), .ref (ma 6), .ref (ma 7), .int g_taped, .int g_size, .int g_token, .int g_from, .int g_end, .int g_value, .int g_faultKind, .int g_faultPlace, .int g_faults, .int g_seen, .int g_told0, .ref (ma 8), .int g_depth, .int g_counted, .int g_easy, .int g_ended, .int g_began, .int g_lastPrice, .ref (ma 9), .int g_drawn, .int g_ranSteps, .ref (ma 10), .ref (ma 11), .ref (ma 12), .int g_isTold, .int g_marks])), (ma 1, .inl (kc 0, 2880, .inl (upd f9 ((nI (1920 + i9)) : Int32).toNatClampNeg 0)))] H := hP
      have hD : va_D A [(ma 0, .inr (11, [.ref (ma 1), .ref (ma 2), .int g_status, .long g_top, .long g_bottom, .ref (ma 3), .ref (ma 4), .ref (ma 5), .ref (ma 6), .ref (ma 7), .int g_taped, .int g_size, .int g_token, .int g_from, .int g_end, .int g_value, .int g_faultKind, .int g_faultPlace, .int g_faults, .int g_seen, .int g_told0, .ref (ma 8), .int g_depth, .int g_counted, .int g_easy, .int g_ended, .int g_began, .int g_lastPrice, .ref (ma 9), .int g_drawn, .int g_ranSteps, .ref (ma 10), .ref (ma 11), .ref (ma 12), .int g_isTold, .int g_marks])), (ma 1, .inl (kc 0, 2880, .inl (upd f9 ((nI (1920 + i9)) : Int32).toNatClampNeg 0)))] := hD
      refine lv_iinc (v := (nI (i9 + 1))) (lv' := [(2, .int (nI (i9 + 1))), (0, .ref (ma 0)), (1, .int 1920)]) hx hb dX12_plain_18 hl (k := 0) rfl (nI_1 _) (by decide) rfl (fun ls hl => ?_)
      refine lv_goto (tgt := 2) hx hb dX12_plain_21 (by decide) ?_
      exact ih (i9 + 1) (by omega) (by omega) (upd f9 ((nI (1920 + i9)) : Int32).toNatClampNeg 0) H locs ls (pl_inv hI) hP hD hS (lv_sub hl [0, 1, 2] rfl)
    · obtain rfl : i9 = 480 := by omega
      refine lv_iload_n hx hb dX12_plain_2 rfl (lv_at hl 0 rfl) ?_
      refine lv_sipush (v := 480) hx hb dX12_plain_3 (by decide) ?_
      refine lv_icmp_ge (tgt := 24) hx hb dX12_plain_6 (by decide) (fun _ => ?_) (fun h => absurd (Int32.le_refl _) h)
      exact kk f9 H locs ls hI hP hD hS (lv_sub hl [0, 1, 2] rfl)
set_option maxHeartbeats 4000000 in
set_option maxRecDepth 100000 in
theorem m_plainN (l : Launch) (D : va_G) (kc : Nat → ClassId) (sz : Nat) (ma : Nat → Nat) (g_status : Int32) (g_top : Int64) (g_bottom : Int64) (g_taped : Int32) (g_size : Int32) (g_token : Int32) (g_from : Int32) (g_end : Int32) (g_value : Int32) (g_faultKind : Int32) (g_faultPlace : Int32) (g_faults : Int32) (g_seen : Int32) (g_told0 : Int32) (g_depth : Int32) (g_counted : Int32) (g_easy : Int32) (g_ended : Int32) (g_began : Int32) (g_lastPrice : Int32) (g_drawn : Int32) (g_ranSteps : Int32) (g_isTold : Int32) (g_marks : Int32) : Met l yX12_plain vm_plainN ({ frames := 0, cells := 0, slots := 0, locals := 0 }) (va_Pc [.ref (ma 0), .int 1920] (wPre D kc [(ma 0, .inr (11, [.ref (ma 1), .ref (ma 2), .int g_status, .long g_top, .long g_bottom, .ref (ma 3), .ref (ma 4), .ref (ma 5), .ref (ma 6), .ref (ma 7), .int g_taped, .int g_size, .int g_token, .int g_from, .int g_end, .int g_value, .int g_faultKind, .int g_faultPlace, .int g_faults, .int g_seen, .int g_told0, .ref (ma 8), .int g_depth, .int g_counted, .int g_easy, .int g_ended, .int g_began, .int g_lastPrice, .ref (ma 9), .int g_drawn, .int g_ranSteps, .ref (ma 10), .ref (ma 11), .ref (ma 12), .int g_isTold, .int g_marks])), (ma 1, .inl (kc 0, 2880, .inl at0))] sz)) (va_Qv (fun (_ : Unit) => True) (fun (_ : Unit) (t9 : State) => ∃ f : Nat → Int32, (f 1 = 0 ∧ f 1921 = 0) ∧ va_P D vwCl [(ma 0, .inr (11, [.ref (ma 1), .ref (ma 2), .int g_status, .long g_top, .long g_bottom, .ref (ma 3), .ref (ma 4), .ref (ma 5), .ref (ma 6), .ref (ma 7), .int g_taped, .int g_size, .int g_token, .int g_from, .int g_end, .int g_value, .int g_faultKind, .int g_faultPlace, .int g_faults, .int g_seen, .int g_told0, .ref (ma 8), .int g_depth, .int g_counted, .int g_easy, .int g_ended, .int g_began, .int g_lastPrice, .ref (ma 9), .int g_drawn, .int g_ranSteps, .ref (ma 10), .ref (ma 11), .ref (ma 12), .int g_isTold, .int g_marks])), (ma 1, .inl (kc 0, 2880, .inl f))] t9.heap ∧ va_D (va_A [(ma 0, .inr (11, [.ref (ma 1), .ref (ma 2), .int g_status, .long g_top, .long g_bottom, .ref (ma 3), .ref (ma 4), .ref (ma 5), .ref (ma 6), .ref (ma 7), .int g_taped, .int g_size, .int g_token, .int g_from, .int g_end, .int g_value, .int g_faultKind, .int g_faultPlace, .int g_faults, .int g_seen, .int g_told0, .ref (ma 8), .int g_depth, .int g_counted, .int g_easy, .int g_ended, .int g_began, .int g_lastPrice, .ref (ma 9), .int g_drawn, .int g_ranSteps, .ref (ma 10), .ref (ma 11), .ref (ma 12), .int g_isTold, .int g_marks])), (ma 1, .inl (kc 0, 2880, .inl at0))] sz) [(ma 0, .inr (11, [.ref (ma 1), .ref (ma 2), .int g_status, .long g_top, .long g_bottom, .ref (ma 3), .ref (ma 4), .ref (ma 5), .ref (ma 6), .ref (ma 7), .int g_taped, .int g_size, .int g_token, .int g_from, .int g_end, .int g_value, .int g_faultKind, .int g_faultPlace, .int g_faults, .int g_seen, .int g_told0, .ref (ma 8), .int g_depth, .int g_counted, .int g_easy, .int g_ended, .int g_began, .int g_lastPrice, .ref (ma 9), .int g_drawn, .int g_ranSteps, .ref (ma 10), .ref (ma 11), .ref (ma 12), .int g_isTold, .int g_marks])), (ma 1, .inl (kc 0, 2880, .inl f))]) (va_A [(ma 0, .inr (11, [.ref (ma 1), .ref (ma 2), .int g_status, .long g_top, .long g_bottom, .ref (ma 3), .ref (ma 4), .ref (ma 5), .ref (ma 6), .ref (ma 7), .int g_taped, .int g_size, .int g_token, .int g_from, .int g_end, .int g_value, .int g_faultKind, .int g_faultPlace, .int g_faults, .int g_seen, .int g_told0, .ref (ma 8), .int g_depth, .int g_counted, .int g_easy, .int g_ended, .int g_began, .int g_lastPrice, .ref (ma 9), .int g_drawn, .int g_ranSteps, .ref (ma 10), .ref (ma 11), .ref (ma 12), .int g_isTold, .int g_marks])), (ma 1, .inl (kc 0, 2880, .inl at0))] sz)) 0 0 (va_A [(ma 0, .inr (11, [.ref (ma 1), .ref (ma 2), .int g_status, .long g_top, .long g_bottom, .ref (ma 3), .ref (ma 4), .ref (ma 5), .ref (ma 6), .ref (ma 7), .int g_taped, .int g_size, .int g_token, .int g_from, .int g_end, .int g_value, .int g_faultKind, .int g_faultPlace, .int g_faults, .int g_seen, .int g_told0, .ref (ma 8), .int g_depth, .int g_counted, .int g_easy, .int g_ended, .int g_began, .int g_lastPrice, .ref (ma 9), .int g_drawn, .int g_ranSteps, .ref (ma 10), .ref (ma 11), .ref (ma 12), .int g_isTold, .int g_marks])), (ma 1, .inl (kc 0, 2880, .inl at0))] sz) := by
  refine Met.ofW (cc := cX12_plain) (maxL := 3) (ret := none) (by decide) rfl ?_
  intro p e s m args below meth c s₁ B hml hv
  obtain ⟨rfl, hsz, hP, hE, hD0⟩ := hv
  have hx := B.exec
  have hb := B.bytes
  have hr := B.returns
  have hts := atoms_spec (ws := vm_plainN) B.pre
  have hown : s.vm.findClass RX12 = some m.cls := findClass_of_methodNamed B.named
  have hlocks := B.notSynchronized
  subst hsz
  have hD := hD0.self (sz := s.heap.size)
  generalize hAe : va_A [(ma 0, .inr (11, [.ref (ma 1), .ref (ma 2), .int g_status, .long g_top, .long g_bottom, .ref (ma 3), .ref (ma 4), .ref (ma 5), .ref (ma 6), .ref (ma 7), .int g_taped, .int g_size, .int g_token, .int g_from, .int g_end, .int g_value, .int g_faultKind, .int g_faultPlace, .int g_faults, .int g_seen, .int g_told0, .ref (ma 8), .int g_depth, .int g_counted, .int g_easy, .int g_ended, .int g_began, .int g_lastPrice, .ref (ma 9), .int g_drawn, .int g_ranSteps, .ref (ma 10), .ref (ma 11), .ref (ma 12), .int g_isTold, .int g_marks])), (ma 1, .inl (kc 0, 2880, .inl at0))] s.heap.size = A at hD ⊢
  have hA : ∀ q : Nat, s.heap.size ≤ q → A q := fun q h => by rw [← hAe]; exact Or.inr h
  have hS : va_S A s.heap s.heap [] := va_S.rf
  have hK := hE.1
  have hP : va_P D vwCl [(ma 0, .inr (11, [.ref (ma 1), .ref (ma 2), .int g_status, .long g_top, .long g_bottom, .ref (ma 3), .ref (ma 4), .ref (ma 5), .ref (ma 6), .ref (ma 7), .int g_taped, .int g_size, .int g_token, .int g_from, .int g_end, .int g_value, .int g_faultKind, .int g_faultPlace, .int g_faults, .int g_seen, .int g_told0, .ref (ma 8), .int g_depth, .int g_counted, .int g_easy, .int g_ended, .int g_began, .int g_lastPrice, .ref (ma 9), .int g_drawn, .int g_ranSteps, .ref (ma 10), .ref (ma 11), .ref (ma 12), .int g_isTold, .int g_marks])), (ma 1, .inl (kc 0, 2880, .inl at0))] s.heap := hP
  have hl := lv_entry ([.ref (ma 0), .int 1920]) (n := 3) (Nat.le_of_ble_eq_true rfl)
  rw [lg_entry_eq]
  generalize (lg_sl ([.ref (ma 0), .int 1920]) ++ List.replicate (3 - (lg_sl ([.ref (ma 0), .int 1920])).length) Slot.unset).toArray = ls at hl ⊢
  have hl : lv_has ls 3 [(0, .ref (ma 0)), (1, .int 1920)] := hl
  refine lv_iconst (v := 0) hx hb dX12_plain_0 (by decide) ?_
  refine lv_istore_n (lv' := [(2, .int 0), (0, .ref (ma 0)), (1, .int 1920)]) hx hb dX12_plain_1 rfl hl (by decide) rfl (fun ls hl => ?_)
  refine lp_plainN_6 ma g_status g_top g_bottom g_taped g_size g_token g_from g_end g_value g_faultKind g_faultPlace g_faults g_seen g_told0 g_depth g_counted g_easy g_ended g_began g_lastPrice g_drawn g_ranSteps g_isTold g_marks hx hb hml hown hts hE (fun f9_2 H locs ls hI2 hP hD hS hl => ?_) (480 + 1) 0 (Nat.zero_le _) (by omega) at0 _ _ ls (⟨by decide, by decide⟩) hP hD hS (lv_sub hl [0, 1, 2] rfl)
  refine lv_aload_n hx hb dX12_plain_24 rfl (lv_at hl 1 rfl) ?_
  refine va_get (D := D) (ci := 11) (v := .ref (ma 1)) (C := RX12) (T := TX12) (N := 36) hx hb hts im_plainN_X12 hown hK hP 0 rfl rfl 0 (by decide) (hts (.fieldLink RX12 7 "SaltStreetModel" "at" "[I") (List.mem_of_getElem? (i := 1) rfl)) (fun _ h9 => h9) rfl dX12_plain_25 ?_
  refine lv_iload_n hx hb dX12_plain_28 rfl (lv_at hl 2 rfl) ?_
  refine lv_bipush (v := 11) hx hb dX12_plain_29 (by decide) ?_
  refine lv_iadd hx hb dX12_plain_31 ?_
  refine lv_ci (y := 1931) (by decide) ?_
  refine lv_iconst (v := (-1)) hx hb dX12_plain_32 (by decide) ?_
  refine va_iast hx hb hK hP hD hS 1 0 (f := f9_2) rfl rfl (by unfold vp_in; decide) dX12_plain_33 (fun H locs hP hD hS => ?_)
  have hP : va_P D vwCl [(ma 0, .inr (11, [.ref (ma 1), .ref (ma 2), .int g_status, .long g_top, .long g_bottom, .ref (ma 3), .ref (ma 4), .ref (ma 5), .ref (ma 6), .ref (ma 7), .int g_taped, .int g_size, .int g_token, .int g_from, .int g_end, .int g_value, .int g_faultKind, .int g_faultPlace, .int g_faults, .int g_seen, .int g_told0, .ref (ma 8), .int g_depth, .int g_counted, .int g_easy, .int g_ended, .int g_began, .int g_lastPrice, .ref (ma 9), .int g_drawn, .int g_ranSteps, .ref (ma 10), .ref (ma 11), .ref (ma 12), .int g_isTold, .int g_marks])), (ma 1, .inl (kc 0, 2880, .inl (upd f9_2 (1931 : Int32).toNatClampNeg (-1))))] H := hP
  have hD : va_D A [(ma 0, .inr (11, [.ref (ma 1), .ref (ma 2), .int g_status, .long g_top, .long g_bottom, .ref (ma 3), .ref (ma 4), .ref (ma 5), .ref (ma 6), .ref (ma 7), .int g_taped, .int g_size, .int g_token, .int g_from, .int g_end, .int g_value, .int g_faultKind, .int g_faultPlace, .int g_faults, .int g_seen, .int g_told0, .ref (ma 8), .int g_depth, .int g_counted, .int g_easy, .int g_ended, .int g_began, .int g_lastPrice, .ref (ma 9), .int g_drawn, .int g_ranSteps, .ref (ma 10), .ref (ma 11), .ref (ma 12), .int g_isTold, .int g_marks])), (ma 1, .inl (kc 0, 2880, .inl (upd f9_2 (1931 : Int32).toNatClampNeg (-1))))] := hD
  refine lv_aload_n hx hb dX12_plain_34 rfl (lv_at hl 1 rfl) ?_
  refine va_get (D := D) (ci := 11) (v := .ref (ma 1)) (C := RX12) (T := TX12) (N := 36) hx hb hts im_plainN_X12 hown hK hP 0 rfl rfl 0 (by decide) (hts (.fieldLink RX12 7 "SaltStreetModel" "at" "[I") (List.mem_of_getElem? (i := 1) rfl)) (fun _ h9 => h9) rfl dX12_plain_35 ?_
  refine lv_iload_n hx hb dX12_plain_38 rfl (lv_at hl 2 rfl) ?_
  refine lv_bipush (v := 13) hx hb dX12_plain_39 (by decide) ?_
  refine lv_iadd hx hb dX12_plain_41 ?_
  refine lv_ci (y := 1933) (by decide) ?_
  refine lv_iconst (v := 5) hx hb dX12_plain_42 (by decide) ?_
  refine va_iast hx hb hK hP hD hS 1 0 (f := (upd f9_2 (1931 : Int32).toNatClampNeg (-1))) rfl rfl (by unfold vp_in; decide) dX12_plain_43 (fun H locs hP hD hS => ?_)
  have hP : va_P D vwCl [(ma 0, .inr (11, [.ref (ma 1), .ref (ma 2), .int g_status, .long g_top, .long g_bottom, .ref (ma 3), .ref (ma 4), .ref (ma 5), .ref (ma 6), .ref (ma 7), .int g_taped, .int g_size, .int g_token, .int g_from, .int g_end, .int g_value, .int g_faultKind, .int g_faultPlace, .int g_faults, .int g_seen, .int g_told0, .ref (ma 8), .int g_depth, .int g_counted, .int g_easy, .int g_ended, .int g_began, .int g_lastPrice, .ref (ma 9), .int g_drawn, .int g_ranSteps, .ref (ma 10), .ref (ma 11), .ref (ma 12), .int g_isTold, .int g_marks])), (ma 1, .inl (kc 0, 2880, .inl (upd (upd f9_2 (1931 : Int32).toNatClampNeg (-1)) (1933 : Int32).toNatClampNeg 5)))] H := hP
  have hD : va_D A [(ma 0, .inr (11, [.ref (ma 1), .ref (ma 2), .int g_status, .long g_top, .long g_bottom, .ref (ma 3), .ref (ma 4), .ref (ma 5), .ref (ma 6), .ref (ma 7), .int g_taped, .int g_size, .int g_token, .int g_from, .int g_end, .int g_value, .int g_faultKind, .int g_faultPlace, .int g_faults, .int g_seen, .int g_told0, .ref (ma 8), .int g_depth, .int g_counted, .int g_easy, .int g_ended, .int g_began, .int g_lastPrice, .ref (ma 9), .int g_drawn, .int g_ranSteps, .ref (ma 10), .ref (ma 11), .ref (ma 12), .int g_isTold, .int g_marks])), (ma 1, .inl (kc 0, 2880, .inl (upd (upd f9_2 (1931 : Int32).toNatClampNeg (-1)) (1933 : Int32).toNatClampNeg 5)))] := hD
  have hP9 := hP.sub (ws' := [(ma 0, .inr (11, [.ref (ma 1), .ref (ma 2), .int g_status, .long g_top, .long g_bottom, .ref (ma 3), .ref (ma 4), .ref (ma 5), .ref (ma 6), .ref (ma 7), .int g_taped, .int g_size, .int g_token, .int g_from, .int g_end, .int g_value, .int g_faultKind, .int g_faultPlace, .int g_faults, .int g_seen, .int g_told0, .ref (ma 8), .int g_depth, .int g_counted, .int g_easy, .int g_ended, .int g_began, .int g_lastPrice, .ref (ma 9), .int g_drawn, .int g_ranSteps, .ref (ma 10), .ref (ma 11), .ref (ma 12), .int g_isTold, .int g_marks])), (ma 1, .inl (kc 0, 2880, .inl (upd (upd f9_2 (1931 : Int32).toNatClampNeg (-1)) (1933 : Int32).toNatClampNeg 5)))]) [0, 1] rfl
  have hD9 := hD.sub (ws' := [(ma 0, .inr (11, [.ref (ma 1), .ref (ma 2), .int g_status, .long g_top, .long g_bottom, .ref (ma 3), .ref (ma 4), .ref (ma 5), .ref (ma 6), .ref (ma 7), .int g_taped, .int g_size, .int g_token, .int g_from, .int g_end, .int g_value, .int g_faultKind, .int g_faultPlace, .int g_faults, .int g_seen, .int g_told0, .ref (ma 8), .int g_depth, .int g_counted, .int g_easy, .int g_ended, .int g_began, .int g_lastPrice, .ref (ma 9), .int g_drawn, .int g_ranSteps, .ref (ma 10), .ref (ma 11), .ref (ma 12), .int g_isTold, .int g_marks])), (ma 1, .inl (kc 0, 2880, .inl (upd (upd f9_2 (1931 : Int32).toNatClampNeg (-1)) (1933 : Int32).toNatClampNeg 5)))]) [0, 1] (by decide) rfl
  exact W.vret hx hb hr (fun t9 ht hW => ⟨⟨(), rfl, trivial, (upd (upd f9_2 (1931 : Int32).toNatClampNeg (-1)) (1933 : Int32).toNatClampNeg 5), ⟨hI2.1, hI2.2⟩, by rw [ht]; exact hP9, hD9⟩, hS.F ht⟩) hS.2.2 dX12_plain_44
theorem dX12_taken_0 : decode cX12_taken 0 = .ok (.aload_n 0, 1) := by decide +kernel
theorem dX12_taken_1 : decode cX12_taken 1 = .ok (.aload_n 0, 1) := by decide +kernel
theorem dX12_taken_2 : decode cX12_taken 2 = .ok (.getfield 142, 3) := by decide +kernel
theorem dX12_taken_5 : decode cX12_taken 5 = .ok (.putfield 37, 3) := by decide +kernel
theorem dX12_taken_8 : decode cX12_taken 8 = .ok (.aload_n 0, 1) := by decide +kernel
theorem dX12_taken_9 : decode cX12_taken 9 = .ok (.getfield 142, 3) := by decide +kernel
theorem dX12_taken_12 : decode cX12_taken 12 = .ok (.ifCond .le 12, 3) := by decide +kernel
theorem dX12_taken_24 : decode cX12_taken 24 = .ok (.aload_n 0, 1) := by decide +kernel
theorem dX12_taken_25 : decode cX12_taken 25 = .ok (.iload_n 1, 1) := by decide +kernel
theorem dX12_taken_26 : decode cX12_taken 26 = .ok (.invokevirtual 76, 3) := by decide +kernel
theorem dX12_taken_29 : decode cX12_taken 29 = .ok (.ireturn, 1) := by decide +kernel
def vdm_taken : List Cond := [.code yX12_taken cX12_taken 2 (some .int), .fieldLink RX12 142 "SaltStreetModel" "faults" "I", .fieldLink RX12 37 "SaltStreetModel" "faultKind" "I", .methodLink RX12 76 yX12_gives, .code yX12_gives cX12_gives 2 (some .int), .fieldLink RX12 66 "SaltStreetModel" "status" "I", .instanceMethod yX12_gives, .selects RX12 yX12_gives yX12_gives, .initialized RX12]
def vm_taken : List Cond := vdm_taken ++ (wsX120 ++ ([] : List Cond))
theorem im_taken_X12 : ∀ w ∈ wsX120, w ∈ vm_taken := fun _ h => List.mem_append_right _ (List.mem_append_left _ h)
set_option maxRecDepth 20000 in
theorem gm_taken_76_m_gives : GoodIn vm_taken (wsV RX12 76 RX12 yX12_gives vm_gives) := (goodIn_app (goodIn_r _ [3, 6, 7, 8] rfl (by decide +kernel)) (goodIn_app (goodIn_r vdm_gives [4, 5] rfl (by decide +kernel)) (goodIn_app (goodIn_sub im_taken_X12 gdX12) goodIn_nil)))
set_option maxHeartbeats 4000000 in
set_option maxRecDepth 100000 in
theorem m_taken (l : Launch) (D : va_G) (kc : Nat → ClassId) (sz : Nat) (ma : Nat → Nat) (g_status : Int32) (g_top : Int64) (g_bottom : Int64) (g_taped : Int32) (g_size : Int32) (g_token : Int32) (g_from : Int32) (g_end : Int32) (g_value : Int32) (g_faultKind : Int32) (g_faultPlace : Int32) (g_seen : Int32) (g_told0 : Int32) (g_depth : Int32) (g_counted : Int32) (g_easy : Int32) (g_ended : Int32) (g_began : Int32) (g_lastPrice : Int32) (g_drawn : Int32) (g_ranSteps : Int32) (g_isTold : Int32) (g_marks : Int32) (v : Int32) : Met l yX12_taken vm_taken ({ frames := 1, cells := 0, slots := 0, locals := 21 }) (va_Pc [.ref (ma 0), .int v] (wPre D kc [(ma 0, .inr (11, [.ref (ma 1), .ref (ma 2), .int g_status, .long g_top, .long g_bottom, .ref (ma 3), .ref (ma 4), .ref (ma 5), .ref (ma 6), .ref (ma 7), .int g_taped, .int g_size, .int g_token, .int g_from, .int g_end, .int g_value, .int g_faultKind, .int g_faultPlace, .int 0, .int g_seen, .int g_told0, .ref (ma 8), .int g_depth, .int g_counted, .int g_easy, .int g_ended, .int g_began, .int g_lastPrice, .ref (ma 9), .int g_drawn, .int g_ranSteps, .ref (ma 10), .ref (ma 11), .ref (ma 12), .int g_isTold, .int g_marks]))] sz)) (va_Qi (fun (r : Int32) (_ : Unit) => r = v) wAny (va_A [(ma 0, .inr (11, [.ref (ma 1), .ref (ma 2), .int g_status, .long g_top, .long g_bottom, .ref (ma 3), .ref (ma 4), .ref (ma 5), .ref (ma 6), .ref (ma 7), .int g_taped, .int g_size, .int g_token, .int g_from, .int g_end, .int g_value, .int g_faultKind, .int g_faultPlace, .int 0, .int g_seen, .int g_told0, .ref (ma 8), .int g_depth, .int g_counted, .int g_easy, .int g_ended, .int g_began, .int g_lastPrice, .ref (ma 9), .int g_drawn, .int g_ranSteps, .ref (ma 10), .ref (ma 11), .ref (ma 12), .int g_isTold, .int g_marks]))] sz)) 0 0 (va_A [(ma 0, .inr (11, [.ref (ma 1), .ref (ma 2), .int g_status, .long g_top, .long g_bottom, .ref (ma 3), .ref (ma 4), .ref (ma 5), .ref (ma 6), .ref (ma 7), .int g_taped, .int g_size, .int g_token, .int g_from, .int g_end, .int g_value, .int g_faultKind, .int g_faultPlace, .int 0, .int g_seen, .int g_told0, .ref (ma 8), .int g_depth, .int g_counted, .int g_easy, .int g_ended, .int g_began, .int g_lastPrice, .ref (ma 9), .int g_drawn, .int g_ranSteps, .ref (ma 10), .ref (ma 11), .ref (ma 12), .int g_isTold, .int g_marks]))] sz) := by
  refine Met.ofW (cc := cX12_taken) (maxL := 2) (ret := (some .int)) (by decide) rfl ?_
  intro p e s m args below meth c s₁ B hml hv
  obtain ⟨rfl, hsz, hP, hE, hD0⟩ := hv
  have hx := B.exec
  have hb := B.bytes
  have hr := B.returns
  have hts := atoms_spec (ws := vm_taken) B.pre
  have hown : s.vm.findClass RX12 = some m.cls := findClass_of_methodNamed B.named
  have hlocks := B.notSynchronized
  subst hsz
  have hD := hD0.self (sz := s.heap.size)
  generalize hAe : va_A [(ma 0, .inr (11, [.ref (ma 1), .ref (ma 2), .int g_status, .long g_top, .long g_bottom, .ref (ma 3), .ref (ma 4), .ref (ma 5), .ref (ma 6), .ref (ma 7), .int g_taped, .int g_size, .int g_token, .int g_from, .int g_end, .int g_value, .int g_faultKind, .int g_faultPlace, .int 0, .int g_seen, .int g_told0, .ref (ma 8), .int g_depth, .int g_counted, .int g_easy, .int g_ended, .int g_began, .int g_lastPrice, .ref (ma 9), .int g_drawn, .int g_ranSteps, .ref (ma 10), .ref (ma 11), .ref (ma 12), .int g_isTold, .int g_marks]))] s.heap.size = A at hD ⊢
  have hA : ∀ q : Nat, s.heap.size ≤ q → A q := fun q h => by rw [← hAe]; exact Or.inr h
  have hS : va_S A s.heap s.heap [] := va_S.rf
  have hK := hE.1
  have hP : va_P D vwCl [(ma 0, .inr (11, [.ref (ma 1), .ref (ma 2), .int g_status, .long g_top, .long g_bottom, .ref (ma 3), .ref (ma 4), .ref (ma 5), .ref (ma 6), .ref (ma 7), .int g_taped, .int g_size, .int g_token, .int g_from, .int g_end, .int g_value, .int g_faultKind, .int g_faultPlace, .int 0, .int g_seen, .int g_told0, .ref (ma 8), .int g_depth, .int g_counted, .int g_easy, .int g_ended, .int g_began, .int g_lastPrice, .ref (ma 9), .int g_drawn, .int g_ranSteps, .ref (ma 10), .ref (ma 11), .ref (ma 12), .int g_isTold, .int g_marks]))] s.heap := hP
  have hl := lv_entry ([.ref (ma 0), .int v]) (n := 2) (Nat.le_of_ble_eq_true rfl)
  rw [lg_entry_eq]
  generalize (lg_sl ([.ref (ma 0), .int v]) ++ List.replicate (2 - (lg_sl ([.ref (ma 0), .int v])).length) Slot.unset).toArray = ls at hl ⊢
  have hl : lv_has ls 2 [(0, .ref (ma 0)), (1, .int v)] := hl
  refine lv_aload_n hx hb dX12_taken_0 rfl (lv_at hl 0 rfl) ?_
  refine lv_aload_n hx hb dX12_taken_1 rfl (lv_at hl 0 rfl) ?_
  refine va_get (D := D) (ci := 11) (v := .int 0) (C := RX12) (T := TX12) (N := 36) hx hb hts im_taken_X12 hown hK hP 0 rfl rfl 18 (by decide) (hts (.fieldLink RX12 142 "SaltStreetModel" "faults" "I") (List.mem_of_getElem? (i := 1) rfl)) (fun _ h9 => h9) rfl dX12_taken_2 ?_
  refine va_put (D := D) (ci := 11) (v := .int 0) (ty := .int) (C := RX12) (T := TX12) (N := 36) hx hb hts im_taken_X12 tyX12 tyX12_ok nmX12 hown hK hP hD hS 0 rfl rfl 16 (by decide) (hts (.fieldLink RX12 37 "SaltStreetModel" "faultKind" "I") (List.mem_of_getElem? (i := 2) rfl)) (fun _ h9 => h9) rfl (by decide +kernel) rfl rfl (Nat.le_of_ble_eq_true rfl) dX12_taken_5 (fun H locs hP hD hS => ?_)
  have hP : va_P D vwCl [(ma 0, .inr (11, [.ref (ma 1), .ref (ma 2), .int g_status, .long g_top, .long g_bottom, .ref (ma 3), .ref (ma 4), .ref (ma 5), .ref (ma 6), .ref (ma 7), .int g_taped, .int g_size, .int g_token, .int g_from, .int g_end, .int g_value, .int 0, .int g_faultPlace, .int 0, .int g_seen, .int g_told0, .ref (ma 8), .int g_depth, .int g_counted, .int g_easy, .int g_ended, .int g_began, .int g_lastPrice, .ref (ma 9), .int g_drawn, .int g_ranSteps, .ref (ma 10), .ref (ma 11), .ref (ma 12), .int g_isTold, .int g_marks]))] H := hP
  have hD : va_D A [(ma 0, .inr (11, [.ref (ma 1), .ref (ma 2), .int g_status, .long g_top, .long g_bottom, .ref (ma 3), .ref (ma 4), .ref (ma 5), .ref (ma 6), .ref (ma 7), .int g_taped, .int g_size, .int g_token, .int g_from, .int g_end, .int g_value, .int 0, .int g_faultPlace, .int 0, .int g_seen, .int g_told0, .ref (ma 8), .int g_depth, .int g_counted, .int g_easy, .int g_ended, .int g_began, .int g_lastPrice, .ref (ma 9), .int g_drawn, .int g_ranSteps, .ref (ma 10), .ref (ma 11), .ref (ma 12), .int g_isTold, .int g_marks]))] := hD
  refine lv_aload_n hx hb dX12_taken_8 rfl (lv_at hl 0 rfl) ?_
  refine va_get (D := D) (ci := 11) (v := .int 0) (C := RX12) (T := TX12) (N := 36) hx hb hts im_taken_X12 hown hK hP 0 rfl rfl 18 (by decide) (hts (.fieldLink RX12 142 "SaltStreetModel" "faults" "I") (List.mem_of_getElem? (i := 1) rfl)) (fun _ h9 => h9) rfl dX12_taken_9 ?_
  refine lv_if_le (tgt := 24) hx hb dX12_taken_12 (by decide) (fun _ => ?_) (fun h => absurd (by decide) h)
  refine lv_aload_n hx hb dX12_taken_24 rfl (lv_at hl 0 rfl) ?_
  refine lv_iload_n hx hb dX12_taken_25 rfl (lv_at hl 1 rfl) ?_
  have hPc := hP.sub (ws' := [(ma 0, .inr (11, [.ref (ma 1), .ref (ma 2), .int g_status, .long g_top, .long g_bottom, .ref (ma 3), .ref (ma 4), .ref (ma 5), .ref (ma 6), .ref (ma 7), .int g_taped, .int g_size, .int g_token, .int g_from, .int g_end, .int g_value, .int 0, .int g_faultPlace, .int 0, .int g_seen, .int g_told0, .ref (ma 8), .int g_depth, .int g_counted, .int g_easy, .int g_ended, .int g_began, .int g_lastPrice, .ref (ma 9), .int g_drawn, .int g_ranSteps, .ref (ma 10), .ref (ma 11), .ref (ma 12), .int g_isTold, .int g_marks]))]) [0] rfl
  have hDc := hD.sub (ws' := [(ma 0, .inr (11, [.ref (ma 1), .ref (ma 2), .int g_status, .long g_top, .long g_bottom, .ref (ma 3), .ref (ma 4), .ref (ma 5), .ref (ma 6), .ref (ma 7), .int g_taped, .int g_size, .int g_token, .int g_from, .int g_end, .int g_value, .int 0, .int g_faultPlace, .int 0, .int g_seen, .int g_told0, .ref (ma 8), .int g_depth, .int g_counted, .int g_easy, .int g_ended, .int g_began, .int g_lastPrice, .ref (ma 9), .int g_drawn, .int g_ranSteps, .ref (ma 10), .ref (ma 11), .ref (ma 12), .int g_isTold, .int g_marks]))]) [0] (by decide) rfl
  have hFc := va_free (wc := [(ma 0, .inr (11, [.ref (ma 1), .ref (ma 2), .int g_status, .long g_top, .long g_bottom, .ref (ma 3), .ref (ma 4), .ref (ma 5), .ref (ma 6), .ref (ma 7), .int g_taped, .int g_size, .int g_token, .int g_from, .int g_end, .int g_value, .int 0, .int g_faultPlace, .int 0, .int g_seen, .int g_told0, .ref (ma 8), .int g_depth, .int g_counted, .int g_easy, .int g_ended, .int g_began, .int g_lastPrice, .ref (ma 9), .int g_drawn, .int g_ranSteps, .ref (ma 10), .ref (ma 11), .ref (ma 12), .int g_isTold, .int g_marks]))]) hD hS hA [0] rfl
  refine va_calli (va_runV (As := [.int v]) (rest := []) ⟨hx, hb, hml, hown, hts⟩ (m_gives l D kc H.size ma g_status g_top g_bottom g_taped g_size g_token g_from g_end g_value 0 g_faultPlace 0 g_seen g_told0 g_depth g_counted g_easy g_ended g_began g_lastPrice g_drawn g_ranSteps g_isTold g_marks v) (cwV 1 hts gm_taken_76_m_gives rfl rfl rfl (by decide +kernel) ⟨Nat.le_of_ble_eq_true rfl, Nat.le_of_ble_eq_true rfl⟩) (preV_ok hPc hDc hE (ci := 11) (q0 := 0) rfl rfl) rfl rfl hl.1 rfl (lv_room (Nat.le_of_ble_eq_true rfl)) dX12_taken_26 ⟨Nat.le_of_ble_eq_true rfl, Nat.le_of_ble_eq_true rfl⟩) hS (fun q _ h => hFc q h) hFc (fun r_26 u9 t9 H locs ht hvm hw hB hz1 hk1 hS => ?_)
  obtain ⟨hP1, hD1⟩ := hB
  rw [ht] at hP1
  obtain ⟨hP, hD⟩ := va_join (wr := []) (w1 := [(ma 0, .inr (11, [.ref (ma 1), .ref (ma 2), .int 0, .long g_top, .long g_bottom, .ref (ma 3), .ref (ma 4), .ref (ma 5), .ref (ma 6), .ref (ma 7), .int g_taped, .int g_size, .int g_token, .int g_from, .int g_end, .int g_value, .int 0, .int g_faultPlace, .int 0, .int g_seen, .int g_told0, .ref (ma 8), .int g_depth, .int g_counted, .int g_easy, .int g_ended, .int g_began, .int g_lastPrice, .ref (ma 9), .int g_drawn, .int g_ranSteps, .ref (ma 10), .ref (ma 11), .ref (ma 12), .int g_isTold, .int g_marks]))]) hP hD [0] [] rfl rfl (by decide) (by decide) hk1 hFc hP1 hD1
  have hP : va_P D vwCl [(ma 0, .inr (11, [.ref (ma 1), .ref (ma 2), .int 0, .long g_top, .long g_bottom, .ref (ma 3), .ref (ma 4), .ref (ma 5), .ref (ma 6), .ref (ma 7), .int g_taped, .int g_size, .int g_token, .int g_from, .int g_end, .int g_value, .int 0, .int g_faultPlace, .int 0, .int g_seen, .int g_told0, .ref (ma 8), .int g_depth, .int g_counted, .int g_easy, .int g_ended, .int g_began, .int g_lastPrice, .ref (ma 9), .int g_drawn, .int g_ranSteps, .ref (ma 10), .ref (ma 11), .ref (ma 12), .int g_isTold, .int g_marks]))] H := hP
  have hD : va_D A [(ma 0, .inr (11, [.ref (ma 1), .ref (ma 2), .int 0, .long g_top, .long g_bottom, .ref (ma 3), .ref (ma 4), .ref (ma 5), .ref (ma 6), .ref (ma 7), .int g_taped, .int g_size, .int g_token, .int g_from, .int g_end, .int g_value, .int 0, .int g_faultPlace, .int 0, .int g_seen, .int g_told0, .ref (ma 8), .int g_depth, .int g_counted, .int g_easy, .int g_ended, .int g_began, .int g_lastPrice, .ref (ma 9), .int g_drawn, .int g_ranSteps, .ref (ma 10), .ref (ma 11), .ref (ma 12), .int g_isTold, .int g_marks]))] := hD
  refine lv_ci hw ?_
  exact W.iret (v := v) hx hb hr (fun t9 ht hW => ⟨⟨v, (), rfl, rfl, trivial⟩, hS.F ht⟩) hS.2.2 dX12_taken_29
theorem dX12_street_0 : decode cX12_street 0 = .ok (.aload_n 0, 1) := by decide +kernel
theorem dX12_street_1 : decode cX12_street 1 = .ok (.iload_n 1, 1) := by decide +kernel
theorem dX12_street_2 : decode cX12_street 2 = .ok (.sipush 900, 3) := by decide +kernel
theorem dX12_street_5 : decode cX12_street 5 = .ok (.invokevirtual 220, 3) := by decide +kernel
theorem dX12_street_8 : decode cX12_street 8 = .ok (.ifCond .ne 9, 3) := by decide +kernel
theorem dX12_street_11 : decode cX12_street 11 = .ok (.aload_n 0, 1) := by decide +kernel
theorem dX12_street_12 : decode cX12_street 12 = .ok (.iconst 1, 1) := by decide +kernel
theorem dX12_street_13 : decode cX12_street 13 = .ok (.invokevirtual 72, 3) := by decide +kernel
theorem dX12_street_16 : decode cX12_street 16 = .ok (.ireturn, 1) := by decide +kernel
theorem dX12_street_17 : decode cX12_street 17 = .ok (.aload_n 0, 1) := by decide +kernel
theorem dX12_street_18 : decode cX12_street 18 = .ok (.sipush 1920, 3) := by decide +kernel
theorem dX12_street_21 : decode cX12_street 21 = .ok (.invokevirtual 62, 3) := by decide +kernel
theorem dX12_street_24 : decode cX12_street 24 = .ok (.aload_n 0, 1) := by decide +kernel
theorem dX12_street_25 : decode cX12_street 25 = .ok (.iconst 0, 1) := by decide +kernel
theorem dX12_street_26 : decode cX12_street 26 = .ok (.putfield 198, 3) := by decide +kernel
theorem dX12_street_29 : decode cX12_street 29 = .ok (.iconst 1, 1) := by decide +kernel
theorem dX12_street_30 : decode cX12_street 30 = .ok (.istore_n 2, 1) := by decide +kernel
theorem dX12_street_31 : decode cX12_street 31 = .ok (.iload_n 2, 1) := by decide +kernel
theorem dX12_street_32 : decode cX12_street 32 = .ok (.ifCond .eq 18, 3) := by decide +kernel
theorem dX12_street_35 : decode cX12_street 35 = .ok (.aload_n 0, 1) := by decide +kernel
theorem dX12_street_36 : decode cX12_street 36 = .ok (.getfield 117, 3) := by decide +kernel
theorem dX12_street_39 : decode cX12_street 39 = .ok (.ifCond .eq 11, 3) := by decide +kernel
theorem dX12_street_50 : decode cX12_street 50 = .ok (.aload_n 0, 1) := by decide +kernel
theorem dX12_street_51 : decode cX12_street 51 = .ok (.getfield 142, 3) := by decide +kernel
theorem dX12_street_54 : decode cX12_street 54 = .ok (.ifCond .ne 63, 3) := by decide +kernel
theorem dX12_street_57 : decode cX12_street 57 = .ok (.iconst 0, 1) := by decide +kernel
theorem dX12_street_58 : decode cX12_street 58 = .ok (.istore_n 3, 1) := by decide +kernel
theorem dX12_street_59 : decode cX12_street 59 = .ok (.iload_n 3, 1) := by decide +kernel
theorem dX12_street_60 : decode cX12_street 60 = .ok (.sipush 480, 3) := by decide +kernel
theorem dX12_street_63 : decode cX12_street 63 = .ok (.if_icmp .ge 25, 3) := by decide +kernel
theorem dX12_street_66 : decode cX12_street 66 = .ok (.aload_n 0, 1) := by decide +kernel
theorem dX12_street_67 : decode cX12_street 67 = .ok (.getfield 7, 3) := by decide +kernel
theorem dX12_street_70 : decode cX12_street 70 = .ok (.iload_n 3, 1) := by decide +kernel
theorem dX12_street_71 : decode cX12_street 71 = .ok (.aload_n 0, 1) := by decide +kernel
theorem dX12_street_72 : decode cX12_street 72 = .ok (.getfield 7, 3) := by decide +kernel
theorem dX12_street_75 : decode cX12_street 75 = .ok (.sipush 1920, 3) := by decide +kernel
theorem dX12_street_78 : decode cX12_street 78 = .ok (.iload_n 3, 1) := by decide +kernel
theorem dX12_street_79 : decode cX12_street 79 = .ok (.iadd, 1) := by decide +kernel
theorem dX12_street_80 : decode cX12_street 80 = .ok (.iaload, 1) := by decide +kernel
theorem dX12_street_81 : decode cX12_street 81 = .ok (.iastore, 1) := by decide +kernel
theorem dX12_street_82 : decode cX12_street 82 = .ok (.iinc 3 1, 3) := by decide +kernel
theorem dX12_street_85 : decode cX12_street 85 = .ok (.goto (-26), 3) := by decide +kernel
theorem dX12_street_88 : decode cX12_street 88 = .ok (.iconst 0, 1) := by decide +kernel
theorem dX12_street_89 : decode cX12_street 89 = .ok (.istore_n 3, 1) := by decide +kernel
theorem dX12_street_90 : decode cX12_street 90 = .ok (.iload_n 3, 1) := by decide +kernel
theorem dX12_street_91 : decode cX12_street 91 = .ok (.bipush 24, 2) := by decide +kernel
theorem dX12_street_93 : decode cX12_street 93 = .ok (.if_icmp .ge 24, 3) := by decide +kernel
theorem dX12_street_96 : decode cX12_street 96 = .ok (.aload_n 0, 1) := by decide +kernel
theorem dX12_street_97 : decode cX12_street 97 = .ok (.getfield 13, 3) := by decide +kernel
theorem dX12_street_100 : decode cX12_street 100 = .ok (.iload_n 3, 1) := by decide +kernel
theorem dX12_street_101 : decode cX12_street 101 = .ok (.aload_n 0, 1) := by decide +kernel
theorem dX12_street_102 : decode cX12_street 102 = .ok (.getfield 13, 3) := by decide +kernel
theorem dX12_street_105 : decode cX12_street 105 = .ok (.bipush 96, 2) := by decide +kernel
theorem dX12_street_107 : decode cX12_street 107 = .ok (.iload_n 3, 1) := by decide +kernel
theorem dX12_street_108 : decode cX12_street 108 = .ok (.iadd, 1) := by decide +kernel
theorem dX12_street_109 : decode cX12_street 109 = .ok (.laload, 1) := by decide +kernel
theorem dX12_street_110 : decode cX12_street 110 = .ok (.lastore, 1) := by decide +kernel
theorem dX12_street_111 : decode cX12_street 111 = .ok (.iinc 3 1, 3) := by decide +kernel
theorem dX12_street_114 : decode cX12_street 114 = .ok (.goto (-24), 3) := by decide +kernel
theorem dX12_street_117 : decode cX12_street 117 = .ok (.aload_n 0, 1) := by decide +kernel
theorem dX12_street_118 : decode cX12_street 118 = .ok (.aload_n 0, 1) := by decide +kernel
theorem dX12_street_119 : decode cX12_street 119 = .ok (.getfield 7, 3) := by decide +kernel
theorem dX12_street_122 : decode cX12_street 122 = .ok (.iconst 1, 1) := by decide +kernel
theorem dX12_street_123 : decode cX12_street 123 = .ok (.iaload, 1) := by decide +kernel
theorem dX12_street_124 : decode cX12_street 124 = .ok (.invokevirtual 227, 3) := by decide +kernel
theorem dX12_street_127 : decode cX12_street 127 = .ok (.ireturn, 1) := by decide +kernel
def vdq_street_0 : List Cond := [.code yX12_street cX12_street 4 (some .int), .methodLink RX12 220 yX12_begins, .code yX12_begins cX12_begins 4 (some .boolean), .fieldLink RX12 96 "SaltStreetModel" "taped" "I", .instanceMethod yX12_begins, .selects RX12 yX12_begins yX12_begins, .initialized RX12, .methodLink RX12 72 yX12_refuse, .code yX12_refuse cX12_refuse 2 (some .int), .fieldLink RX12 66 "SaltStreetModel" "status" "I", .instanceMethod yX12_refuse, .selects RX12 yX12_refuse yX12_refuse, .fieldLink RX12 102 "SaltStreetModel" "size" "I", .fieldLink RX12 142 "SaltStreetModel" "faults" "I", .fieldLink RX12 41 "SaltStreetModel" "faultPlace" "I", .fieldLink RX12 105 "SaltStreetModel" "end" "I", .fieldLink RX12 145 "SaltStreetModel" "seen" "I", .methodLink RX12 148 yX12_ahead, .code yX12_ahead cX12_ahead 2 none, .methodLink RX12 108 yX12_byteAt, .code yX12_byteAt cX12_byteAt 2 (some .int), .instanceMethod yX12_byteAt, .selects RX12 yX12_byteAt yX12_byteAt, .fieldLink RX12 111 "SaltStreetModel" "from" "I"]
def vdq_street_1 : List Cond := [.fieldLink RX12 114 "SaltStreetModel" "value" "I", .fieldLink RX12 117 "SaltStreetModel" "token" "I", .instanceMethod yX12_ahead, .selects RX12 yX12_ahead yX12_ahead, .methodLink RX12 62 yX12_plain, .code yX12_plain cX12_plain 3 none, .fieldLink RX12 7 "SaltStreetModel" "at" "[I", .instanceMethod yX12_plain, .selects RX12 yX12_plain yX12_plain, .fieldLink RX12 198 "SaltStreetModel" "told0" "I", .fieldLink RX12 13 "SaltStreetModel" "names" "[J", .methodLink RX12 227 yX12_taken, .code yX12_taken cX12_taken 2 (some .int), .fieldLink RX12 37 "SaltStreetModel" "faultKind" "I", .methodLink RX12 76 yX12_gives, .code yX12_gives cX12_gives 2 (some .int), .instanceMethod yX12_gives, .selects RX12 yX12_gives yX12_gives, .instanceMethod yX12_taken, .selects RX12 yX12_taken yX12_taken]
def vdq_street : List Cond := (vdq_street_0 ++ vdq_street_1)
def vq_street : List Cond := vdq_street ++ (wsX120 ++ ([] : List Cond))
theorem iq_street_X12 : ∀ w ∈ wsX120, w ∈ vq_street := fun _ h => List.mem_append_right _ (List.mem_append_left _ h)
set_option maxRecDepth 20000 in
theorem gq_street_220_m_beginsNo : GoodIn vq_street (wsV RX12 220 RX12 yX12_begins vm_beginsNo) := (goodIn_app (goodIn_r _ [1, 4, 5, 6] rfl (by decide +kernel)) (goodIn_app (goodIn_r vdm_beginsNo [2, 3] rfl (by decide +kernel)) (goodIn_app (goodIn_sub iq_street_X12 gdX12) goodIn_nil)))
set_option maxRecDepth 20000 in
theorem gq_street_72_m_refuse : GoodIn vq_street (wsV RX12 72 RX12 yX12_refuse vm_refuse) := (goodIn_app (goodIn_r _ [7, 10, 11, 6] rfl (by decide +kernel)) (goodIn_app (goodIn_r vdm_refuse [8, 9] rfl (by decide +kernel)) (goodIn_app (goodIn_sub iq_street_X12 gdX12) goodIn_nil)))
set_option maxRecDepth 20000 in
theorem gq_street_220_m_begins900 : GoodIn vq_street (wsV RX12 220 RX12 yX12_begins vm_begins900) := (goodIn_app (goodIn_r _ [1, 4, 5, 6] rfl (by decide +kernel)) (goodIn_app (goodIn_r vdm_begins900 [2, 3, 12, 13, 14, 15, 16, 17, 18, 19, 20, 21, 22, 6, 23, 24, 25, 26, 27] rfl (by decide +kernel)) (goodIn_app (goodIn_sub iq_street_X12 gdX12) goodIn_nil)))
set_option maxRecDepth 20000 in
theorem gq_street_62_m_plainN : GoodIn vq_street (wsV RX12 62 RX12 yX12_plain vm_plainN) := (goodIn_app (goodIn_r _ [28, 31, 32, 6] rfl (by decide +kernel)) (goodIn_app (goodIn_r vdm_plainN [29, 30] rfl (by decide +kernel)) (goodIn_app (goodIn_sub iq_street_X12 gdX12) goodIn_nil)))
set_option maxRecDepth 20000 in
theorem gq_street_227_m_taken : GoodIn vq_street (wsV RX12 227 RX12 yX12_taken vm_taken) := (goodIn_app (goodIn_r _ [35, 42, 43, 6] rfl (by decide +kernel)) (goodIn_app (goodIn_r vdm_taken [36, 13, 37, 38, 39, 9, 40, 41, 6] rfl (by decide +kernel)) (goodIn_app (goodIn_sub iq_street_X12 gdX12) goodIn_nil)))
set_option maxHeartbeats 4000000 in
set_option maxRecDepth 100000 in
theorem lp_streetA_7 {p : Program} {l : Launch} {e : Env} {R : Room} {s : State} {m : MethodId} {args : Array Value} {below : List Frame} {meth : Method} {c : Code} {cells slots : Nat} {Q : State → Prop} {A : Nat → Prop} {D : va_G} {kc : Nat → ClassId} (ma : Nat → Nat) (hx : p.tables.exec = Jvm.exec) (hb : c.code = cX12_street) (hml : c.maxLocals = 4) (hown : s.vm.findClass RX12 = some m.cls) (hts : ∀ w ∈ vq_street, w.before args s = true) (hE : EK D kc s) (kk : ∀ (f9 : Nat → Int32) (H : Heap) (locs : List Loc) (ls : Array Slot), (f9 1 = 0 ∧ f9 1921 = 0) → va_P D vwCl [(ma 2, .inl (kc 1, 130, .inr (.inl z1))), (ma 0, .inr (11, [.ref (ma 1), .ref (ma 2), .int 0, .long 0, .long 1, .ref (ma 3), .ref (ma 4), .ref (ma 5), .ref (ma 6), .ref (ma 7), .int 0, .int 0, .int 0, .int 0, .int 0, .int (-1), .int (-1), .int (-1), .int 0, .int 0, .int 0, .ref (ma 8), .int 0, .int 0, .int (-1), .int 0, .int 0, .int 0, .ref (ma 9), .int 0, .int 0, .ref (ma 10), .ref (ma 11), .ref (ma 12), .int 0, .int 0])), (ma 1, .inl (kc 0, 2880, .inl f9))] H → va_D A [(ma 2, .inl (kc 1, 130, .inr (.inl z1))), (ma 0, .inr (11, [.ref (ma 1), .ref (ma 2), .int 0, .long 0, .long 1, .ref (ma 3), .ref (ma 4), .ref (ma 5), .ref (ma 6), .ref (ma 7), .int 0, .int 0, .int 0, .int 0, .int 0, .int (-1), .int (-1), .int (-1), .int 0, .int 0, .int 0, .ref (ma 8), .int 0, .int 0, .int (-1), .int 0, .int 0, .int 0, .ref (ma 9), .int 0, .int 0, .ref (ma 10), .ref (ma 11), .ref (ma 12), .int 0, .int 0])), (ma 1, .inl (kc 0, 2880, .inl f9))] → va_S A s.heap H locs → lv_has ls 4 [(3, .int (nI 480)), (2, .int 1), (0, .ref (ma 0)), (1, .int 0)] → W p l e R s m args below meth c H locs cells slots Q (F0 m 88 ls [])) : ∀ (n9 i9 : Nat), i9 ≤ 480 → 480 < i9 + n9 → ∀ (f9 : Nat → Int32) (H : Heap) (locs : List Loc) (ls : Array Slot), (f9 1 = 0 ∧ f9 1921 = 0) → va_P D vwCl [(ma 2, .inl (kc 1, 130, .inr (.inl z1))), (ma 0, .inr (11, [.ref (ma 1), .ref (ma 2), .int 0, .long 0, .long 1, .ref (ma 3), .ref (ma 4), .ref (ma 5), .ref (ma 6), .ref (ma 7), .int 0, .int 0, .int 0, .int 0, .int 0, .int (-1), .int (-1), .int (-1), .int 0, .int 0, .int 0, .ref (ma 8), .int 0, .int 0, .int (-1), .int 0, .int 0, .int 0, .ref (ma 9), .int 0, .int 0, .ref (ma 10), .ref (ma 11), .ref (ma 12), .int 0, .int 0])), (ma 1, .inl (kc 0, 2880, .inl f9))] H → va_D A [(ma 2, .inl (kc 1, 130, .inr (.inl z1))), (ma 0, .inr (11, [.ref (ma 1), .ref (ma 2), .int 0, .long 0, .long 1, .ref (ma 3), .ref (ma 4), .ref (ma 5), .ref (ma 6), .ref (ma 7), .int 0, .int 0, .int 0, .int 0, .int 0, .int (-1), .int (-1), .int (-1), .int 0, .int 0, .int 0, .ref (ma 8), .int 0, .int 0, .int (-1), .int 0, .int 0, .int 0, .ref (ma 9), .int 0, .int 0, .ref (ma 10), .ref (ma 11), .ref (ma 12), .int 0, .int 0])), (ma 1, .inl (kc 0, 2880, .inl f9))] → va_S A s.heap H locs → lv_has ls 4 [(3, .int (nI i9)), (2, .int 1), (0, .ref (ma 0)), (1, .int 0)] → W p l e R s m args below meth c H locs cells slots Q (F0 m 59 ls []) := by
  have hK := hE.1
  intro n9
  induction n9 with
  | zero => intro i9 h1 h2; exact absurd h2 (by omega)
  | succ n9 ih =>
    intro i9 h1 h2 f9 H locs ls hI hP hD hS hl
    rcases Nat.lt_or_ge i9 480 with hlt | hge
    · refine lv_iload_n hx hb dX12_street_59 rfl (lv_at hl 0 rfl) ?_
      refine lv_sipush (v := 480) hx hb dX12_street_60 (by decide) ?_
      refine lv_icmp_ge (tgt := 88) hx hb dX12_street_63 (by decide) (fun h => absurd h (nI_ge hlt (by decide))) (fun _ => ?_)
      refine lv_aload_n hx hb dX12_street_66 rfl (lv_at hl 2 rfl) ?_
      refine va_get (D := D) (ci := 11) (v := .ref (ma 1)) (C := RX12) (T := TX12) (N := 36) hx hb hts iq_street_X12 hown hK hP 1 rfl rfl 0 (by decide) (hts (.fieldLink RX12 7 "SaltStreetModel" "at" "[I") (List.mem_of_getElem? (i := 30) rfl)) (fun _ h9 => h9) rfl dX12_street_67 ?_
      refine lv_iload_n hx hb dX12_street_70 rfl (lv_at hl 0 rfl) ?_
      refine lv_aload_n hx hb dX12_street_71 rfl (lv_at hl 2 rfl) ?_
      refine va_get (D := D) (ci := 11) (v := .ref (ma 1)) (C := RX12) (T := TX12) (N := 36) hx hb hts iq_street_X12 hown hK hP 1 rfl rfl 0 (by decide) (hts (.fieldLink RX12 7 "SaltStreetModel" "at" "[I") (List.mem_of_getElem? (i := 30) rfl)) (fun _ h9 => h9) rfl dX12_street_72 ?_
      refine lv_sipush (v := 1920) hx hb dX12_street_75 (by decide) ?_
      refine lv_iload_n hx hb dX12_street_78 rfl (lv_at hl 0 rfl) ?_
      refine lv_iadd hx hb dX12_street_79 ?_
      refine lv_ci (y := (nI (1920 + i9))) (nI_add _ _) ?_
      refine va_iald hx hb hK hP 2 0 (f := f9) rfl rfl (vp_in_nI (by omega) (by decide)) dX12_street_80 ?_
      refine va_iast hx hb hK hP hD hS 2 0 (f := f9) rfl rfl (vp_in_nI (by omega) (by decide)) dX12_street_81 (fun H locs hP hD hS => ?_)
      have hP : va_P D vwCl [(ma 2, .inl (kc 1, 130, .inr (.inl z1))), (ma 0, .inr (11, [.ref (ma 1), .ref (ma 2), .int 0, .long 0, .long 1, .ref (ma 3), .ref (ma 4), .ref (ma 5), .ref (ma 6), .ref (ma 7), .int 0, .int 0, .int 0, .int 0, .int 0, .int (-1), .int (-1), .int (-1), .int 0, .int 0, .int 0, .ref (ma 8), .int 0, .int 0, .int (-1), .int 0, .int 0, .int 0, .ref (ma 9), .int 0, .int 0, .ref (ma 10), .ref (ma 11), .ref (ma 12), .int 0, .int 0])), (ma 1, .inl (kc 0, 2880, .inl (upd f9 ((nI i9) : Int32).toNatClampNeg (f9 ((nI (1920 + i9)) : Int32).toNatClampNeg))))] H := hP
      have hD : va_D A [(ma 2, .inl (kc 1, 130, .inr (.inl z1))), (ma 0, .inr (11, [.ref (ma 1), .ref (ma 2), .int 0, .long 0, .long 1, .ref (ma 3), .ref (ma 4), .ref (ma 5), .ref (ma 6), .ref (ma 7), .int 0, .int 0, .int 0, .int 0, .int 0, .int (-1), .int (-1), .int (-1), .int 0, .int 0, .int 0, .ref (ma 8), .int 0, .int 0, .int (-1), .int 0, .int 0, .int 0, .ref (ma 9), .int 0, .int 0, .ref (ma 10), .ref (ma 11), .ref (ma 12), .int 0, .int 0])), (ma 1, .inl (kc 0, 2880, .inl (upd f9 ((nI i9) : Int32).toNatClampNeg (f9 ((nI (1920 + i9)) : Int32).toNatClampNeg))))] := hD
      refine lv_iinc (v := (nI (i9 + 1))) (lv' := [(3, .int (nI (i9 + 1))), (2, .int 1), (0, .ref (ma 0)), (1, .int 0)]) hx hb dX12_street_82 hl (k := 0) rfl (nI_1 _) (by decide) rfl (fun ls hl => ?_)
      refine lv_goto (tgt := 59) hx hb dX12_street_85 (by decide) ?_
      exact ih (i9 + 1) (by omega) (by omega) (upd f9 ((nI i9) : Int32).toNatClampNeg (f9 ((nI (1920 + i9)) : Int32).toNatClampNeg)) H locs ls (cp_inv hI hlt) hP hD hS (lv_sub hl [0, 1, 2, 3] rfl)
    · obtain rfl : i9 = 480 := by omega
      refine lv_iload_n hx hb dX12_street_59 rfl (lv_at hl 0 rfl) ?_
      refine lv_sipush (v := 480) hx hb dX12_street_60 (by decide) ?_
      refine lv_icmp_ge (tgt := 88) hx hb dX12_street_63 (by decide) (fun _ => ?_) (fun h => absurd (Int32.le_refl _) h)
      exact kk f9 H locs ls hI hP hD hS (lv_sub hl [0, 1, 2, 3] rfl)
set_option maxHeartbeats 4000000 in
set_option maxRecDepth 100000 in
theorem lp_streetB_8 {p : Program} {l : Launch} {e : Env} {R : Room} {s : State} {m : MethodId} {args : Array Value} {below : List Frame} {meth : Method} {c : Code} {cells slots : Nat} {Q : State → Prop} {A : Nat → Prop} {D : va_G} {kc : Nat → ClassId} (ma : Nat → Nat) (f9_59 : Nat → Int32) (hx : p.tables.exec = Jvm.exec) (hb : c.code = cX12_street) (hml : c.maxLocals = 4) (hown : s.vm.findClass RX12 = some m.cls) (hts : ∀ w ∈ vq_street, w.before args s = true) (hE : EK D kc s) (kk : ∀ (H : Heap) (locs : List Loc) (ls : Array Slot), True → va_P D vwCl [(ma 2, .inl (kc 1, 130, .inr (.inl z1))), (ma 0, .inr (11, [.ref (ma 1), .ref (ma 2), .int 0, .long 0, .long 1, .ref (ma 3), .ref (ma 4), .ref (ma 5), .ref (ma 6), .ref (ma 7), .int 0, .int 0, .int 0, .int 0, .int 0, .int (-1), .int (-1), .int (-1), .int 0, .int 0, .int 0, .ref (ma 8), .int 0, .int 0, .int (-1), .int 0, .int 0, .int 0, .ref (ma 9), .int 0, .int 0, .ref (ma 10), .ref (ma 11), .ref (ma 12), .int 0, .int 0])), (ma 1, .inl (kc 0, 2880, .inl f9_59))] H → va_D A [(ma 2, .inl (kc 1, 130, .inr (.inl z1))), (ma 0, .inr (11, [.ref (ma 1), .ref (ma 2), .int 0, .long 0, .long 1, .ref (ma 3), .ref (ma 4), .ref (ma 5), .ref (ma 6), .ref (ma 7), .int 0, .int 0, .int 0, .int 0, .int 0, .int (-1), .int (-1), .int (-1), .int 0, .int 0, .int 0, .ref (ma 8), .int 0, .int 0, .int (-1), .int 0, .int 0, .int 0, .ref (ma 9), .int 0, .int 0, .ref (ma 10), .ref (ma 11), .ref (ma 12), .int 0, .int 0])), (ma 1, .inl (kc 0, 2880, .inl f9_59))] → va_S A s.heap H locs → lv_has ls 4 [(3, .int (nI 24)), (2, .int 1), (0, .ref (ma 0)), (1, .int 0)] → W p l e R s m args below meth c H locs cells slots Q (F0 m 117 ls [])) : ∀ (n9 i9 : Nat), i9 ≤ 24 → 24 < i9 + n9 → ∀ (H : Heap) (locs : List Loc) (ls : Array Slot), True → va_P D vwCl [(ma 2, .inl (kc 1, 130, .inr (.inl z1))), (ma 0, .inr (11, [.ref (ma 1), .ref (ma 2), .int 0, .long 0, .long 1, .ref (ma 3), .ref (ma 4), .ref (ma 5), .ref (ma 6), .ref (ma 7), .int 0, .int 0, .int 0, .int 0, .int 0, .int (-1), .int (-1), .int (-1), .int 0, .int 0, .int 0, .ref (ma 8), .int 0, .int 0, .int (-1), .int 0, .int 0, .int 0, .ref (ma 9), .int 0, .int 0, .ref (ma 10), .ref (ma 11), .ref (ma 12), .int 0, .int 0])), (ma 1, .inl (kc 0, 2880, .inl f9_59))] H → va_D A [(ma 2, .inl (kc 1, 130, .inr (.inl z1))), (ma 0, .inr (11, [.ref (ma 1), .ref (ma 2), .int 0, .long 0, .long 1, .ref (ma 3), .ref (ma 4), .ref (ma 5), .ref (ma 6), .ref (ma 7), .int 0, .int 0, .int 0, .int 0, .int 0, .int (-1), .int (-1), .int (-1), .int 0, .int 0, .int 0, .ref (ma 8), .int 0, .int 0, .int (-1), .int 0, .int 0, .int 0, .ref (ma 9), .int 0, .int 0, .ref (ma 10), .ref (ma 11), .ref (ma 12), .int 0, .int 0])), (ma 1, .inl (kc 0, 2880, .inl f9_59))] → va_S A s.heap H locs → lv_has ls 4 [(3, .int (nI i9)), (2, .int 1), (0, .ref (ma 0)), (1, .int 0)] → W p l e R s m args below meth c H locs cells slots Q (F0 m 90 ls []) := by
  have hK := hE.1
  intro n9
  induction n9 with
  | zero => intro i9 h1 h2; exact absurd h2 (by omega)
  | succ n9 ih =>
    intro i9 h1 h2 H locs ls hI hP hD hS hl
    rcases Nat.lt_or_ge i9 24 with hlt | hge
    · refine lv_iload_n hx hb dX12_street_90 rfl (lv_at hl 0 rfl) ?_
      refine lv_bipush (v := 24) hx hb dX12_street_91 (by decide) ?_
      refine lv_icmp_ge (tgt := 117) hx hb dX12_street_93 (by decide) (fun h => absurd h (nI_ge hlt (by decide))) (fun _ => ?_)
      refine lv_aload_n hx hb dX12_street_96 rfl (lv_at hl 2 rfl) ?_
      refine va_get (D := D) (ci := 11) (v := .ref (ma 2)) (C := RX12) (T := TX12) (N := 36) hx hb hts iq_street_X12 hown hK hP 1 rfl rfl 1 (by decide) (hts (.fieldLink RX12 13 "SaltStreetModel" "names" "[J") (List.mem_of_getElem? (i := 34) rfl)) (fun _ h9 => h9) rfl dX12_street_97 ?_
      refine lv_iload_n hx hb dX12_street_100 rfl (lv_at hl 0 rfl) ?_
      refine lv_aload_n hx hb dX12_street_101 rfl (lv_at hl 2 rfl) ?_
      refine va_get (D := D) (ci := 11) (v := .ref (ma 2)) (C := RX12) (T := TX12) (N := 36) hx hb hts iq_street_X12 hown hK hP 1 rfl rfl 1 (by decide) (hts (.fieldLink RX12 13 "SaltStreetModel" "names" "[J") (List.mem_of_getElem? (i := 34) rfl)) (fun _ h9 => h9) rfl dX12_street_102 ?_
      refine lv_bipush (v := 96) hx hb dX12_street_105 (by decide) ?_
      refine lv_iload_n hx hb dX12_street_107 rfl (lv_at hl 0 rfl) ?_
      refine lv_iadd hx hb dX12_street_108 ?_
      refine lv_ci (y := (nI (96 + i9))) (nI_add _ _) ?_
      refine va_lald hx hb hK hP 0 1 (f := z1) rfl rfl (vp_in_nI (by omega) (by decide)) dX12_street_109 ?_
      refine lv_cl (y := 0) (rfl) ?_
      refine va_last hx hb hK hP hD hS 0 1 (f := z1) rfl rfl (vp_in_nI (by omega) (by decide)) dX12_street_110 (fun H locs hP hD hS => ?_)
      have hP : va_P D vwCl [(ma 2, .inl (kc 1, 130, .inr (.inl (vp_updL z1 ((nI i9) : Int32).toNatClampNeg 0)))), (ma 0, .inr (11, [.ref (ma 1), .ref (ma 2), .int 0, .long 0, .long 1, .ref (ma 3), .ref (ma 4), .ref (ma 5), .ref (ma 6), .ref (ma 7), .int 0, .int 0, .int 0, .int 0, .int 0, .int (-1), .int (-1), .int (-1), .int 0, .int 0, .int 0, .ref (ma 8), .int 0, .int 0, .int (-1), .int 0, .int 0, .int 0, .ref (ma 9), .int 0, .int 0, .ref (ma 10), .ref (ma 11), .ref (ma 12), .int 0, .int 0])), (ma 1, .inl (kc 0, 2880, .inl f9_59))] H := hP
      have hD : va_D A [(ma 2, .inl (kc 1, 130, .inr (.inl (vp_updL z1 ((nI i9) : Int32).toNatClampNeg 0)))), (ma 0, .inr (11, [.ref (ma 1), .ref (ma 2), .int 0, .long 0, .long 1, .ref (ma 3), .ref (ma 4), .ref (ma 5), .ref (ma 6), .ref (ma 7), .int 0, .int 0, .int 0, .int 0, .int 0, .int (-1), .int (-1), .int (-1), .int 0, .int 0, .int 0, .ref (ma 8), .int 0, .int 0, .int (-1), .int 0, .int 0, .int 0, .ref (ma 9), .int 0, .int 0, .ref (ma 10), .ref (ma 11), .ref (ma 12), .int 0, .int 0])), (ma 1, .inl (kc 0, 2880, .inl f9_59))] := hD
      rw [show (vp_updL z1 ((nI i9) : Int32).toNatClampNeg 0) = z1 from updl_z1 _] at hP hD
      refine lv_iinc (v := (nI (i9 + 1))) (lv' := [(3, .int (nI (i9 + 1))), (2, .int 1), (0, .ref (ma 0)), (1, .int 0)]) hx hb dX12_street_111 hl (k := 0) rfl (nI_1 _) (by decide) rfl (fun ls hl => ?_)
      refine lv_goto (tgt := 90) hx hb dX12_street_114 (by decide) ?_
      exact ih (i9 + 1) (by omega) (by omega) H locs ls (trivial) hP hD hS (lv_sub hl [0, 1, 2, 3] rfl)
    · obtain rfl : i9 = 24 := by omega
      refine lv_iload_n hx hb dX12_street_90 rfl (lv_at hl 0 rfl) ?_
      refine lv_bipush (v := 24) hx hb dX12_street_91 (by decide) ?_
      refine lv_icmp_ge (tgt := 117) hx hb dX12_street_93 (by decide) (fun _ => ?_) (fun h => absurd (Int32.le_refl _) h)
      exact kk H locs ls hI hP hD hS (lv_sub hl [0, 1, 2, 3] rfl)
set_option maxHeartbeats 4000000 in
set_option maxRecDepth 100000 in
theorem q_street (l : Launch) (D : va_G) (kc : Nat → ClassId) (sz : Nat) (ma : Nat → Nat) (a0 : Int32) : Met l yX12_street vq_street ({ frames := 3, cells := 0, slots := 0, locals := 65 }) (va_Pc [.ref (ma 0), .int a0] (wPre D kc [(ma 0, .inr (11, [.ref (ma 1), .ref (ma 2), .int 0, .long 0, .long 1, .ref (ma 3), .ref (ma 4), .ref (ma 5), .ref (ma 6), .ref (ma 7), .int 0, .int 0, .int 0, .int 0, .int 0, .int 0, .int (-1), .int (-1), .int 0, .int 0, .int 0, .ref (ma 8), .int 0, .int 0, .int (-1), .int 0, .int 0, .int 0, .ref (ma 9), .int 0, .int 0, .ref (ma 10), .ref (ma 11), .ref (ma 12), .int 0, .int 0])), (ma 1, .inl (kc 0, 2880, .inl at0)), (ma 2, .inl (kc 1, 130, .inr (.inl z1)))] sz)) (va_Qi (fun (r : Int32) (_ : Unit) => r = (sZ a0)) wAny (va_A [(ma 0, .inr (11, [.ref (ma 1), .ref (ma 2), .int 0, .long 0, .long 1, .ref (ma 3), .ref (ma 4), .ref (ma 5), .ref (ma 6), .ref (ma 7), .int 0, .int 0, .int 0, .int 0, .int 0, .int 0, .int (-1), .int (-1), .int 0, .int 0, .int 0, .ref (ma 8), .int 0, .int 0, .int (-1), .int 0, .int 0, .int 0, .ref (ma 9), .int 0, .int 0, .ref (ma 10), .ref (ma 11), .ref (ma 12), .int 0, .int 0])), (ma 1, .inl (kc 0, 2880, .inl at0)), (ma 2, .inl (kc 1, 130, .inr (.inl z1)))] sz)) 0 0 (va_A [(ma 0, .inr (11, [.ref (ma 1), .ref (ma 2), .int 0, .long 0, .long 1, .ref (ma 3), .ref (ma 4), .ref (ma 5), .ref (ma 6), .ref (ma 7), .int 0, .int 0, .int 0, .int 0, .int 0, .int 0, .int (-1), .int (-1), .int 0, .int 0, .int 0, .ref (ma 8), .int 0, .int 0, .int (-1), .int 0, .int 0, .int 0, .ref (ma 9), .int 0, .int 0, .ref (ma 10), .ref (ma 11), .ref (ma 12), .int 0, .int 0])), (ma 1, .inl (kc 0, 2880, .inl at0)), (ma 2, .inl (kc 1, 130, .inr (.inl z1)))] sz) := by
  refine Met.ofW (cc := cX12_street) (maxL := 4) (ret := (some .int)) (by decide) rfl ?_
  intro p e s m args below meth c s₁ B hml hv
  obtain ⟨rfl, hsz, hP, hE, hD0⟩ := hv
  have hx := B.exec
  have hb := B.bytes
  have hr := B.returns
  have hts := atoms_spec (ws := vq_street) B.pre
  have hown : s.vm.findClass RX12 = some m.cls := findClass_of_methodNamed B.named
  have hlocks := B.notSynchronized
  subst hsz
  have hD := hD0.self (sz := s.heap.size)
  generalize hAe : va_A [(ma 0, .inr (11, [.ref (ma 1), .ref (ma 2), .int 0, .long 0, .long 1, .ref (ma 3), .ref (ma 4), .ref (ma 5), .ref (ma 6), .ref (ma 7), .int 0, .int 0, .int 0, .int 0, .int 0, .int 0, .int (-1), .int (-1), .int 0, .int 0, .int 0, .ref (ma 8), .int 0, .int 0, .int (-1), .int 0, .int 0, .int 0, .ref (ma 9), .int 0, .int 0, .ref (ma 10), .ref (ma 11), .ref (ma 12), .int 0, .int 0])), (ma 1, .inl (kc 0, 2880, .inl at0)), (ma 2, .inl (kc 1, 130, .inr (.inl z1)))] s.heap.size = A at hD ⊢
  have hA : ∀ q : Nat, s.heap.size ≤ q → A q := fun q h => by rw [← hAe]; exact Or.inr h
  have hS : va_S A s.heap s.heap [] := va_S.rf
  have hK := hE.1
  have hP : va_P D vwCl [(ma 0, .inr (11, [.ref (ma 1), .ref (ma 2), .int 0, .long 0, .long 1, .ref (ma 3), .ref (ma 4), .ref (ma 5), .ref (ma 6), .ref (ma 7), .int 0, .int 0, .int 0, .int 0, .int 0, .int 0, .int (-1), .int (-1), .int 0, .int 0, .int 0, .ref (ma 8), .int 0, .int 0, .int (-1), .int 0, .int 0, .int 0, .ref (ma 9), .int 0, .int 0, .ref (ma 10), .ref (ma 11), .ref (ma 12), .int 0, .int 0])), (ma 1, .inl (kc 0, 2880, .inl at0)), (ma 2, .inl (kc 1, 130, .inr (.inl z1)))] s.heap := hP
  have hl := lv_entry ([.ref (ma 0), .int a0]) (n := 4) (Nat.le_of_ble_eq_true rfl)
  rw [lg_entry_eq]
  generalize (lg_sl ([.ref (ma 0), .int a0]) ++ List.replicate (4 - (lg_sl ([.ref (ma 0), .int a0])).length) Slot.unset).toArray = ls at hl ⊢
  have hl : lv_has ls 4 [(0, .ref (ma 0)), (1, .int a0)] := hl
  rcases z_cases a0 with h_a0 | rfl
  · refine lv_aload_n hx hb dX12_street_0 rfl (lv_at hl 0 rfl) ?_
    refine lv_iload_n hx hb dX12_street_1 rfl (lv_at hl 1 rfl) ?_
    refine lv_sipush (v := 900) hx hb dX12_street_2 (by decide) ?_
    have hPc := hP.sub (ws' := [(ma 0, .inr (11, [.ref (ma 1), .ref (ma 2), .int 0, .long 0, .long 1, .ref (ma 3), .ref (ma 4), .ref (ma 5), .ref (ma 6), .ref (ma 7), .int 0, .int 0, .int 0, .int 0, .int 0, .int 0, .int (-1), .int (-1), .int 0, .int 0, .int 0, .ref (ma 8), .int 0, .int 0, .int (-1), .int 0, .int 0, .int 0, .ref (ma 9), .int 0, .int 0, .ref (ma 10), .ref (ma 11), .ref (ma 12), .int 0, .int 0]))]) [0] rfl
    have hDc := hD.sub (ws' := [(ma 0, .inr (11, [.ref (ma 1), .ref (ma 2), .int 0, .long 0, .long 1, .ref (ma 3), .ref (ma 4), .ref (ma 5), .ref (ma 6), .ref (ma 7), .int 0, .int 0, .int 0, .int 0, .int 0, .int 0, .int (-1), .int (-1), .int 0, .int 0, .int 0, .ref (ma 8), .int 0, .int 0, .int (-1), .int 0, .int 0, .int 0, .ref (ma 9), .int 0, .int 0, .ref (ma 10), .ref (ma 11), .ref (ma 12), .int 0, .int 0]))]) [0] (by decide) rfl
    have hFc := va_free (wc := [(ma 0, .inr (11, [.ref (ma 1), .ref (ma 2), .int 0, .long 0, .long 1, .ref (ma 3), .ref (ma 4), .ref (ma 5), .ref (ma 6), .ref (ma 7), .int 0, .int 0, .int 0, .int 0, .int 0, .int 0, .int (-1), .int (-1), .int 0, .int 0, .int 0, .ref (ma 8), .int 0, .int 0, .int (-1), .int 0, .int 0, .int 0, .ref (ma 9), .int 0, .int 0, .ref (ma 10), .ref (ma 11), .ref (ma 12), .int 0, .int 0]))]) hD hS hA [0] rfl
    refine va_calli (va_runV (As := [.int a0, .int 900]) (rest := []) ⟨hx, hb, hml, hown, hts⟩ (m_beginsNo l D kc s.heap.size ma a0 900 h_a0) (cwV 2 hts gq_street_220_m_beginsNo rfl rfl rfl (by decide +kernel) ⟨Nat.le_of_ble_eq_true rfl, Nat.le_of_ble_eq_true rfl⟩) (preV_ok hPc hDc hE (ci := 11) (q0 := 0) rfl rfl) rfl rfl hl.1 rfl (lv_room (Nat.le_of_ble_eq_true rfl)) dX12_street_5 ⟨Nat.le_of_ble_eq_true rfl, Nat.le_of_ble_eq_true rfl⟩) hS (fun q _ h => hFc q h) hFc (fun r_5 u9 t9 H locs ht hvm hw hB hz1 hk1 hS => ?_)
    obtain ⟨hP1, hD1⟩ := hB
    rw [ht] at hP1
    obtain ⟨hP, hD⟩ := va_join (wr := [(ma 1, .inl (kc 0, 2880, .inl at0)), (ma 2, .inl (kc 1, 130, .inr (.inl z1)))]) (w1 := [(ma 0, .inr (11, [.ref (ma 1), .ref (ma 2), .int 0, .long 0, .long 1, .ref (ma 3), .ref (ma 4), .ref (ma 5), .ref (ma 6), .ref (ma 7), .int 0, .int 0, .int 0, .int 0, .int 0, .int 0, .int (-1), .int (-1), .int 0, .int 0, .int 0, .ref (ma 8), .int 0, .int 0, .int (-1), .int 0, .int 0, .int 0, .ref (ma 9), .int 0, .int 0, .ref (ma 10), .ref (ma 11), .ref (ma 12), .int 0, .int 0]))]) hP hD [0] [1, 2] rfl rfl (by decide) (by decide) hk1 hFc hP1 hD1
    have hP : va_P D vwCl [(ma 1, .inl (kc 0, 2880, .inl at0)), (ma 2, .inl (kc 1, 130, .inr (.inl z1))), (ma 0, .inr (11, [.ref (ma 1), .ref (ma 2), .int 0, .long 0, .long 1, .ref (ma 3), .ref (ma 4), .ref (ma 5), .ref (ma 6), .ref (ma 7), .int 0, .int 0, .int 0, .int 0, .int 0, .int 0, .int (-1), .int (-1), .int 0, .int 0, .int 0, .ref (ma 8), .int 0, .int 0, .int (-1), .int 0, .int 0, .int 0, .ref (ma 9), .int 0, .int 0, .ref (ma 10), .ref (ma 11), .ref (ma 12), .int 0, .int 0]))] H := hP
    have hD : va_D A [(ma 1, .inl (kc 0, 2880, .inl at0)), (ma 2, .inl (kc 1, 130, .inr (.inl z1))), (ma 0, .inr (11, [.ref (ma 1), .ref (ma 2), .int 0, .long 0, .long 1, .ref (ma 3), .ref (ma 4), .ref (ma 5), .ref (ma 6), .ref (ma 7), .int 0, .int 0, .int 0, .int 0, .int 0, .int 0, .int (-1), .int (-1), .int 0, .int 0, .int 0, .ref (ma 8), .int 0, .int 0, .int (-1), .int 0, .int 0, .int 0, .ref (ma 9), .int 0, .int 0, .ref (ma 10), .ref (ma 11), .ref (ma 12), .int 0, .int 0]))] := hD
    subst hw
    refine lv_if_ne (tgt := 17) hx hb dX12_street_8 (by decide) (fun h => absurd (by decide) h) (fun _ => ?_)
    refine lv_aload_n hx hb dX12_street_11 rfl (lv_at hl 0 rfl) ?_
    refine lv_iconst (v := 1) hx hb dX12_street_12 (by decide) ?_
    have hPc := hP.sub (ws' := [(ma 0, .inr (11, [.ref (ma 1), .ref (ma 2), .int 0, .long 0, .long 1, .ref (ma 3), .ref (ma 4), .ref (ma 5), .ref (ma 6), .ref (ma 7), .int 0, .int 0, .int 0, .int 0, .int 0, .int 0, .int (-1), .int (-1), .int 0, .int 0, .int 0, .ref (ma 8), .int 0, .int 0, .int (-1), .int 0, .int 0, .int 0, .ref (ma 9), .int 0, .int 0, .ref (ma 10), .ref (ma 11), .ref (ma 12), .int 0, .int 0]))]) [2] rfl
    have hDc := hD.sub (ws' := [(ma 0, .inr (11, [.ref (ma 1), .ref (ma 2), .int 0, .long 0, .long 1, .ref (ma 3), .ref (ma 4), .ref (ma 5), .ref (ma 6), .ref (ma 7), .int 0, .int 0, .int 0, .int 0, .int 0, .int 0, .int (-1), .int (-1), .int 0, .int 0, .int 0, .ref (ma 8), .int 0, .int 0, .int (-1), .int 0, .int 0, .int 0, .ref (ma 9), .int 0, .int 0, .ref (ma 10), .ref (ma 11), .ref (ma 12), .int 0, .int 0]))]) [2] (by decide) rfl
    have hFc := va_free (wc := [(ma 0, .inr (11, [.ref (ma 1), .ref (ma 2), .int 0, .long 0, .long 1, .ref (ma 3), .ref (ma 4), .ref (ma 5), .ref (ma 6), .ref (ma 7), .int 0, .int 0, .int 0, .int 0, .int 0, .int 0, .int (-1), .int (-1), .int 0, .int 0, .int 0, .ref (ma 8), .int 0, .int 0, .int (-1), .int 0, .int 0, .int 0, .ref (ma 9), .int 0, .int 0, .ref (ma 10), .ref (ma 11), .ref (ma 12), .int 0, .int 0]))]) hD hS hA [2] rfl
    refine va_calli (va_runV (As := [.int 1]) (rest := []) ⟨hx, hb, hml, hown, hts⟩ (m_refuse l D kc H.size ma 0 0 1 0 0 0 0 0 0 (-1) (-1) 0 0 0 0 0 (-1) 0 0 0 0 0 0 0 1) (cwV 1 hts gq_street_72_m_refuse rfl rfl rfl (by decide +kernel) ⟨Nat.le_of_ble_eq_true rfl, Nat.le_of_ble_eq_true rfl⟩) (preV_ok hPc hDc hE (ci := 11) (q0 := 0) rfl rfl) rfl rfl hl.1 rfl (lv_room (Nat.le_of_ble_eq_true rfl)) dX12_street_13 ⟨Nat.le_of_ble_eq_true rfl, Nat.le_of_ble_eq_true rfl⟩) hS (fun q _ h => hFc q h) hFc (fun r_13 u9 t9 H locs ht hvm hw hB hz1 hk1 hS => ?_)
    obtain ⟨hP1, hD1⟩ := hB
    rw [ht] at hP1
    obtain ⟨hP, hD⟩ := va_join (wr := [(ma 1, .inl (kc 0, 2880, .inl at0)), (ma 2, .inl (kc 1, 130, .inr (.inl z1)))]) (w1 := [(ma 0, .inr (11, [.ref (ma 1), .ref (ma 2), .int 1, .long 0, .long 1, .ref (ma 3), .ref (ma 4), .ref (ma 5), .ref (ma 6), .ref (ma 7), .int 0, .int 0, .int 0, .int 0, .int 0, .int 0, .int (-1), .int (-1), .int 0, .int 0, .int 0, .ref (ma 8), .int 0, .int 0, .int (-1), .int 0, .int 0, .int 0, .ref (ma 9), .int 0, .int 0, .ref (ma 10), .ref (ma 11), .ref (ma 12), .int 0, .int 0]))]) hP hD [2] [0, 1] rfl rfl (by decide) (by decide) hk1 hFc hP1 hD1
    have hP : va_P D vwCl [(ma 1, .inl (kc 0, 2880, .inl at0)), (ma 2, .inl (kc 1, 130, .inr (.inl z1))), (ma 0, .inr (11, [.ref (ma 1), .ref (ma 2), .int 1, .long 0, .long 1, .ref (ma 3), .ref (ma 4), .ref (ma 5), .ref (ma 6), .ref (ma 7), .int 0, .int 0, .int 0, .int 0, .int 0, .int 0, .int (-1), .int (-1), .int 0, .int 0, .int 0, .ref (ma 8), .int 0, .int 0, .int (-1), .int 0, .int 0, .int 0, .ref (ma 9), .int 0, .int 0, .ref (ma 10), .ref (ma 11), .ref (ma 12), .int 0, .int 0]))] H := hP
    have hD : va_D A [(ma 1, .inl (kc 0, 2880, .inl at0)), (ma 2, .inl (kc 1, 130, .inr (.inl z1))), (ma 0, .inr (11, [.ref (ma 1), .ref (ma 2), .int 1, .long 0, .long 1, .ref (ma 3), .ref (ma 4), .ref (ma 5), .ref (ma 6), .ref (ma 7), .int 0, .int 0, .int 0, .int 0, .int 0, .int 0, .int (-1), .int (-1), .int 0, .int 0, .int 0, .ref (ma 8), .int 0, .int 0, .int (-1), .int 0, .int 0, .int 0, .ref (ma 9), .int 0, .int 0, .ref (ma 10), .ref (ma 11), .ref (ma 12), .int 0, .int 0]))] := hD
    subst hw
    exact W.iret (v := (-1)) hx hb hr (fun t9 ht hW => ⟨⟨(-1), (), rfl, by first | exact (if_pos h_a0).symm | decide, trivial⟩, hS.F ht⟩) hS.2.2 dX12_street_16
  · refine lv_aload_n hx hb dX12_street_0 rfl (lv_at hl 0 rfl) ?_
    refine lv_iload_n hx hb dX12_street_1 rfl (lv_at hl 1 rfl) ?_
    refine lv_sipush (v := 900) hx hb dX12_street_2 (by decide) ?_
    have hPc := hP.sub (ws' := [(ma 0, .inr (11, [.ref (ma 1), .ref (ma 2), .int 0, .long 0, .long 1, .ref (ma 3), .ref (ma 4), .ref (ma 5), .ref (ma 6), .ref (ma 7), .int 0, .int 0, .int 0, .int 0, .int 0, .int 0, .int (-1), .int (-1), .int 0, .int 0, .int 0, .ref (ma 8), .int 0, .int 0, .int (-1), .int 0, .int 0, .int 0, .ref (ma 9), .int 0, .int 0, .ref (ma 10), .ref (ma 11), .ref (ma 12), .int 0, .int 0]))]) [0] rfl
    have hDc := hD.sub (ws' := [(ma 0, .inr (11, [.ref (ma 1), .ref (ma 2), .int 0, .long 0, .long 1, .ref (ma 3), .ref (ma 4), .ref (ma 5), .ref (ma 6), .ref (ma 7), .int 0, .int 0, .int 0, .int 0, .int 0, .int 0, .int (-1), .int (-1), .int 0, .int 0, .int 0, .ref (ma 8), .int 0, .int 0, .int (-1), .int 0, .int 0, .int 0, .ref (ma 9), .int 0, .int 0, .ref (ma 10), .ref (ma 11), .ref (ma 12), .int 0, .int 0]))]) [0] (by decide) rfl
    have hFc := va_free (wc := [(ma 0, .inr (11, [.ref (ma 1), .ref (ma 2), .int 0, .long 0, .long 1, .ref (ma 3), .ref (ma 4), .ref (ma 5), .ref (ma 6), .ref (ma 7), .int 0, .int 0, .int 0, .int 0, .int 0, .int 0, .int (-1), .int (-1), .int 0, .int 0, .int 0, .ref (ma 8), .int 0, .int 0, .int (-1), .int 0, .int 0, .int 0, .ref (ma 9), .int 0, .int 0, .ref (ma 10), .ref (ma 11), .ref (ma 12), .int 0, .int 0]))]) hD hS hA [0] rfl
    refine va_calli (va_runV (As := [.int 0, .int 900]) (rest := []) ⟨hx, hb, hml, hown, hts⟩ (m_begins900 l D kc s.heap.size ma) (cwV 2 hts gq_street_220_m_begins900 rfl rfl rfl (by decide +kernel) ⟨Nat.le_of_ble_eq_true rfl, Nat.le_of_ble_eq_true rfl⟩) (preV_ok hPc hDc hE (ci := 11) (q0 := 0) rfl rfl) rfl rfl hl.1 rfl (lv_room (Nat.le_of_ble_eq_true rfl)) dX12_street_5 ⟨Nat.le_of_ble_eq_true rfl, Nat.le_of_ble_eq_true rfl⟩) hS (fun q _ h => hFc q h) hFc (fun r_5 u9 t9 H locs ht hvm hw hB hz1 hk1 hS => ?_)
    obtain ⟨hP1, hD1⟩ := hB
    rw [ht] at hP1
    obtain ⟨hP, hD⟩ := va_join (wr := [(ma 1, .inl (kc 0, 2880, .inl at0)), (ma 2, .inl (kc 1, 130, .inr (.inl z1)))]) (w1 := [(ma 0, .inr (11, [.ref (ma 1), .ref (ma 2), .int 0, .long 0, .long 1, .ref (ma 3), .ref (ma 4), .ref (ma 5), .ref (ma 6), .ref (ma 7), .int 0, .int 0, .int 0, .int 0, .int 0, .int (-1), .int (-1), .int (-1), .int 0, .int 0, .int 0, .ref (ma 8), .int 0, .int 0, .int (-1), .int 0, .int 0, .int 0, .ref (ma 9), .int 0, .int 0, .ref (ma 10), .ref (ma 11), .ref (ma 12), .int 0, .int 0]))]) hP hD [0] [1, 2] rfl rfl (by decide) (by decide) hk1 hFc hP1 hD1
    have hP : va_P D vwCl [(ma 1, .inl (kc 0, 2880, .inl at0)), (ma 2, .inl (kc 1, 130, .inr (.inl z1))), (ma 0, .inr (11, [.ref (ma 1), .ref (ma 2), .int 0, .long 0, .long 1, .ref (ma 3), .ref (ma 4), .ref (ma 5), .ref (ma 6), .ref (ma 7), .int 0, .int 0, .int 0, .int 0, .int 0, .int (-1), .int (-1), .int (-1), .int 0, .int 0, .int 0, .ref (ma 8), .int 0, .int 0, .int (-1), .int 0, .int 0, .int 0, .ref (ma 9), .int 0, .int 0, .ref (ma 10), .ref (ma 11), .ref (ma 12), .int 0, .int 0]))] H := hP
    have hD : va_D A [(ma 1, .inl (kc 0, 2880, .inl at0)), (ma 2, .inl (kc 1, 130, .inr (.inl z1))), (ma 0, .inr (11, [.ref (ma 1), .ref (ma 2), .int 0, .long 0, .long 1, .ref (ma 3), .ref (ma 4), .ref (ma 5), .ref (ma 6), .ref (ma 7), .int 0, .int 0, .int 0, .int 0, .int 0, .int (-1), .int (-1), .int (-1), .int 0, .int 0, .int 0, .ref (ma 8), .int 0, .int 0, .int (-1), .int 0, .int 0, .int 0, .ref (ma 9), .int 0, .int 0, .ref (ma 10), .ref (ma 11), .ref (ma 12), .int 0, .int 0]))] := hD
    subst hw
    refine lv_if_ne (tgt := 17) hx hb dX12_street_8 (by decide) (fun _ => ?_) (fun h => absurd h (by decide))
    refine lv_aload_n hx hb dX12_street_17 rfl (lv_at hl 0 rfl) ?_
    refine lv_sipush (v := 1920) hx hb dX12_street_18 (by decide) ?_
    have hPc := hP.sub (ws' := [(ma 0, .inr (11, [.ref (ma 1), .ref (ma 2), .int 0, .long 0, .long 1, .ref (ma 3), .ref (ma 4), .ref (ma 5), .ref (ma 6), .ref (ma 7), .int 0, .int 0, .int 0, .int 0, .int 0, .int (-1), .int (-1), .int (-1), .int 0, .int 0, .int 0, .ref (ma 8), .int 0, .int 0, .int (-1), .int 0, .int 0, .int 0, .ref (ma 9), .int 0, .int 0, .ref (ma 10), .ref (ma 11), .ref (ma 12), .int 0, .int 0])), (ma 1, .inl (kc 0, 2880, .inl at0))]) [2, 0] rfl
    have hDc := hD.sub (ws' := [(ma 0, .inr (11, [.ref (ma 1), .ref (ma 2), .int 0, .long 0, .long 1, .ref (ma 3), .ref (ma 4), .ref (ma 5), .ref (ma 6), .ref (ma 7), .int 0, .int 0, .int 0, .int 0, .int 0, .int (-1), .int (-1), .int (-1), .int 0, .int 0, .int 0, .ref (ma 8), .int 0, .int 0, .int (-1), .int 0, .int 0, .int 0, .ref (ma 9), .int 0, .int 0, .ref (ma 10), .ref (ma 11), .ref (ma 12), .int 0, .int 0])), (ma 1, .inl (kc 0, 2880, .inl at0))]) [2, 0] (by decide) rfl
    have hFc := va_free (wc := [(ma 0, .inr (11, [.ref (ma 1), .ref (ma 2), .int 0, .long 0, .long 1, .ref (ma 3), .ref (ma 4), .ref (ma 5), .ref (ma 6), .ref (ma 7), .int 0, .int 0, .int 0, .int 0, .int 0, .int (-1), .int (-1), .int (-1), .int 0, .int 0, .int 0, .ref (ma 8), .int 0, .int 0, .int (-1), .int 0, .int 0, .int 0, .ref (ma 9), .int 0, .int 0, .ref (ma 10), .ref (ma 11), .ref (ma 12), .int 0, .int 0])), (ma 1, .inl (kc 0, 2880, .inl at0))]) hD hS hA [2, 0] rfl
    refine va_callv (va_runV (As := [.int 1920]) (rest := []) ⟨hx, hb, hml, hown, hts⟩ (m_plainN l D kc H.size ma 0 0 1 0 0 0 0 0 (-1) (-1) (-1) 0 0 0 0 0 (-1) 0 0 0 0 0 0 0) (cwV 1 hts gq_street_62_m_plainN rfl rfl rfl (by decide +kernel) ⟨Nat.le_of_ble_eq_true rfl, Nat.le_of_ble_eq_true rfl⟩) (preV_ok hPc hDc hE (ci := 11) (q0 := 0) rfl rfl) rfl rfl hl.1 rfl (lv_room (Nat.le_of_ble_eq_true rfl)) dX12_street_21 ⟨Nat.le_of_ble_eq_true rfl, Nat.le_of_ble_eq_true rfl⟩) hS (fun q _ h => hFc q h) hFc (fun u9 t9 H locs ht hvm hw hB hz1 hk1 hS => ?_)
    obtain ⟨f21_1, hI21, hP1, hD1⟩ := hB
    rw [ht] at hP1
    obtain ⟨hP, hD⟩ := va_join (wr := [(ma 2, .inl (kc 1, 130, .inr (.inl z1)))]) (w1 := [(ma 0, .inr (11, [.ref (ma 1), .ref (ma 2), .int 0, .long 0, .long 1, .ref (ma 3), .ref (ma 4), .ref (ma 5), .ref (ma 6), .ref (ma 7), .int 0, .int 0, .int 0, .int 0, .int 0, .int (-1), .int (-1), .int (-1), .int 0, .int 0, .int 0, .ref (ma 8), .int 0, .int 0, .int (-1), .int 0, .int 0, .int 0, .ref (ma 9), .int 0, .int 0, .ref (ma 10), .ref (ma 11), .ref (ma 12), .int 0, .int 0])), (ma 1, .inl (kc 0, 2880, .inl f21_1))]) hP hD [2, 0] [1] rfl rfl (by decide) (by decide) hk1 hFc hP1 hD1
    have hP : va_P D vwCl [(ma 2, .inl (kc 1, 130, .inr (.inl z1))), (ma 0, .inr (11, [.ref (ma 1), .ref (ma 2), .int 0, .long 0, .long 1, .ref (ma 3), .ref (ma 4), .ref (ma 5), .ref (ma 6), .ref (ma 7), .int 0, .int 0, .int 0, .int 0, .int 0, .int (-1), .int (-1), .int (-1), .int 0, .int 0, .int 0, .ref (ma 8), .int 0, .int 0, .int (-1), .int 0, .int 0, .int 0, .ref (ma 9), .int 0, .int 0, .ref (ma 10), .ref (ma 11), .ref (ma 12), .int 0, .int 0])), (ma 1, .inl (kc 0, 2880, .inl f21_1))] H := hP
    have hD : va_D A [(ma 2, .inl (kc 1, 130, .inr (.inl z1))), (ma 0, .inr (11, [.ref (ma 1), .ref (ma 2), .int 0, .long 0, .long 1, .ref (ma 3), .ref (ma 4), .ref (ma 5), .ref (ma 6), .ref (ma 7), .int 0, .int 0, .int 0, .int 0, .int 0, .int (-1), .int (-1), .int (-1), .int 0, .int 0, .int 0, .ref (ma 8), .int 0, .int 0, .int (-1), .int 0, .int 0, .int 0, .ref (ma 9), .int 0, .int 0, .ref (ma 10), .ref (ma 11), .ref (ma 12), .int 0, .int 0])), (ma 1, .inl (kc 0, 2880, .inl f21_1))] := hD
    refine lv_aload_n hx hb dX12_street_24 rfl (lv_at hl 0 rfl) ?_
    refine lv_iconst (v := 0) hx hb dX12_street_25 (by decide) ?_
    refine va_put (D := D) (ci := 11) (v := .int 0) (ty := .int) (C := RX12) (T := TX12) (N := 36) hx hb hts iq_street_X12 tyX12 tyX12_ok nmX12 hown hK hP hD hS 1 rfl rfl 20 (by decide) (hts (.fieldLink RX12 198 "SaltStreetModel" "told0" "I") (List.mem_of_getElem? (i := 33) rfl)) (fun _ h9 => h9) rfl (by decide +kernel) rfl rfl (Nat.le_of_ble_eq_true rfl) dX12_street_26 (fun H locs hP hD hS => ?_)
    have hP : va_P D vwCl [(ma 2, .inl (kc 1, 130, .inr (.inl z1))), (ma 0, .inr (11, [.ref (ma 1), .ref (ma 2), .int 0, .long 0, .long 1, .ref (ma 3), .ref (ma 4), .ref (ma 5), .ref (ma 6), .ref (ma 7), .int 0, .int 0, .int 0, .int 0, .int 0, .int (-1), .int (-1), .int (-1), .int 0, .int 0, .int 0, .ref (ma 8), .int 0, .int 0, .int (-1), .int 0, .int 0, .int 0, .ref (ma 9), .int 0, .int 0, .ref (ma 10), .ref (ma 11), .ref (ma 12), .int 0, .int 0])), (ma 1, .inl (kc 0, 2880, .inl f21_1))] H := hP
    have hD : va_D A [(ma 2, .inl (kc 1, 130, .inr (.inl z1))), (ma 0, .inr (11, [.ref (ma 1), .ref (ma 2), .int 0, .long 0, .long 1, .ref (ma 3), .ref (ma 4), .ref (ma 5), .ref (ma 6), .ref (ma 7), .int 0, .int 0, .int 0, .int 0, .int 0, .int (-1), .int (-1), .int (-1), .int 0, .int 0, .int 0, .ref (ma 8), .int 0, .int 0, .int (-1), .int 0, .int 0, .int 0, .ref (ma 9), .int 0, .int 0, .ref (ma 10), .ref (ma 11), .ref (ma 12), .int 0, .int 0])), (ma 1, .inl (kc 0, 2880, .inl f21_1))] := hD
    refine lv_iconst (v := 1) hx hb dX12_street_29 (by decide) ?_
    refine lv_istore_n (lv' := [(2, .int 1), (0, .ref (ma 0)), (1, .int 0)]) hx hb dX12_street_30 rfl hl (by decide) rfl (fun ls hl => ?_)
    refine lv_iload_n hx hb dX12_street_31 rfl (lv_at hl 0 rfl) ?_
    refine lv_if_eq (tgt := 50) hx hb dX12_street_32 (by decide) (fun h => absurd h (by decide)) (fun _ => ?_)
    refine lv_aload_n hx hb dX12_street_35 rfl (lv_at hl 1 rfl) ?_
    refine va_get (D := D) (ci := 11) (v := .int 0) (C := RX12) (T := TX12) (N := 36) hx hb hts iq_street_X12 hown hK hP 1 rfl rfl 12 (by decide) (hts (.fieldLink RX12 117 "SaltStreetModel" "token" "I") (List.mem_of_getElem? (i := 25) rfl)) (fun _ h9 => h9) rfl dX12_street_36 ?_
    refine lv_if_eq (tgt := 50) hx hb dX12_street_39 (by decide) (fun _ => ?_) (fun h => absurd (by decide) h)
    refine lv_aload_n hx hb dX12_street_50 rfl (lv_at hl 1 rfl) ?_
    refine va_get (D := D) (ci := 11) (v := .int 0) (C := RX12) (T := TX12) (N := 36) hx hb hts iq_street_X12 hown hK hP 1 rfl rfl 18 (by decide) (hts (.fieldLink RX12 142 "SaltStreetModel" "faults" "I") (List.mem_of_getElem? (i := 13) rfl)) (fun _ h9 => h9) rfl dX12_street_51 ?_
    refine lv_if_ne (tgt := 117) hx hb dX12_street_54 (by decide) (fun h => absurd (by decide) h) (fun _ => ?_)
    refine lv_iconst (v := 0) hx hb dX12_street_57 (by decide) ?_
    refine lv_istore_n (lv' := [(3, .int 0), (2, .int 1), (0, .ref (ma 0)), (1, .int 0)]) hx hb dX12_street_58 rfl hl (by decide) rfl (fun ls hl => ?_)
    refine lp_streetA_7 ma hx hb hml hown hts hE (fun f9_59 H locs ls hI59 hP hD hS hl => ?_) (480 + 1) 0 (Nat.zero_le _) (by omega) f21_1 _ _ ls (hI21) hP hD hS (lv_sub hl [0, 1, 2, 3] rfl)
    refine lv_iconst (v := 0) hx hb dX12_street_88 (by decide) ?_
    refine lv_istore_n (lv' := [(3, .int 0), (2, .int 1), (0, .ref (ma 0)), (1, .int 0)]) hx hb dX12_street_89 rfl hl (by decide) rfl (fun ls hl => ?_)
    refine lp_streetB_8 ma f9_59 hx hb hml hown hts hE (fun H locs ls hI90 hP hD hS hl => ?_) (24 + 1) 0 (Nat.zero_le _) (by omega) _ _ ls (trivial) hP hD hS (lv_sub hl [0, 1, 2, 3] rfl)
    refine lv_aload_n hx hb dX12_street_117 rfl (lv_at hl 2 rfl) ?_
    refine lv_aload_n hx hb dX12_street_118 rfl (lv_at hl 2 rfl) ?_
    refine va_get (D := D) (ci := 11) (v := .ref (ma 1)) (C := RX12) (T := TX12) (N := 36) hx hb hts iq_street_X12 hown hK hP 1 rfl rfl 0 (by decide) (hts (.fieldLink RX12 7 "SaltStreetModel" "at" "[I") (List.mem_of_getElem? (i := 30) rfl)) (fun _ h9 => h9) rfl dX12_street_119 ?_
    refine lv_iconst (v := 1) hx hb dX12_street_122 (by decide) ?_
    refine va_iald hx hb hK hP 2 0 (f := f9_59) rfl rfl (by unfold vp_in; decide) dX12_street_123 ?_
    refine lv_ci (y := 0) (hI59.1) ?_
    have hPc := hP.sub (ws' := [(ma 0, .inr (11, [.ref (ma 1), .ref (ma 2), .int 0, .long 0, .long 1, .ref (ma 3), .ref (ma 4), .ref (ma 5), .ref (ma 6), .ref (ma 7), .int 0, .int 0, .int 0, .int 0, .int 0, .int (-1), .int (-1), .int (-1), .int 0, .int 0, .int 0, .ref (ma 8), .int 0, .int 0, .int (-1), .int 0, .int 0, .int 0, .ref (ma 9), .int 0, .int 0, .ref (ma 10), .ref (ma 11), .ref (ma 12), .int 0, .int 0]))]) [1] rfl
    have hDc := hD.sub (ws' := [(ma 0, .inr (11, [.ref (ma 1), .ref (ma 2), .int 0, .long 0, .long 1, .ref (ma 3), .ref (ma 4), .ref (ma 5), .ref (ma 6), .ref (ma 7), .int 0, .int 0, .int 0, .int 0, .int 0, .int (-1), .int (-1), .int (-1), .int 0, .int 0, .int 0, .ref (ma 8), .int 0, .int 0, .int (-1), .int 0, .int 0, .int 0, .ref (ma 9), .int 0, .int 0, .ref (ma 10), .ref (ma 11), .ref (ma 12), .int 0, .int 0]))]) [1] (by decide) rfl
    have hFc := va_free (wc := [(ma 0, .inr (11, [.ref (ma 1), .ref (ma 2), .int 0, .long 0, .long 1, .ref (ma 3), .ref (ma 4), .ref (ma 5), .ref (ma 6), .ref (ma 7), .int 0, .int 0, .int 0, .int 0, .int 0, .int (-1), .int (-1), .int (-1), .int 0, .int 0, .int 0, .ref (ma 8), .int 0, .int 0, .int (-1), .int 0, .int 0, .int 0, .ref (ma 9), .int 0, .int 0, .ref (ma 10), .ref (ma 11), .ref (ma 12), .int 0, .int 0]))]) hD hS hA [1] rfl
    refine va_calli (va_runV (As := [.int 0]) (rest := []) ⟨hx, hb, hml, hown, hts⟩ (m_taken l D kc H.size ma 0 0 1 0 0 0 0 0 (-1) (-1) (-1) 0 0 0 0 (-1) 0 0 0 0 0 0 0 0) (cwV 1 hts gq_street_227_m_taken rfl rfl rfl (by decide +kernel) ⟨Nat.le_of_ble_eq_true rfl, Nat.le_of_ble_eq_true rfl⟩) (preV_ok hPc hDc hE (ci := 11) (q0 := 0) rfl rfl) rfl rfl hl.1 rfl (lv_room (Nat.le_of_ble_eq_true rfl)) dX12_street_124 ⟨Nat.le_of_ble_eq_true rfl, Nat.le_of_ble_eq_true rfl⟩) hS (fun q _ h => hFc q h) hFc (fun r_124_1 u9 t9 H locs ht hvm hw hB hz1 hk1 hS => ?_)
    obtain ⟨hP, hD⟩ := va_join (wr := [(ma 2, .inl (kc 1, 130, .inr (.inl z1))), (ma 1, .inl (kc 0, 2880, .inl f9_59))]) (w1 := []) hP hD [1] [0, 2] rfl rfl (by decide) (by decide) hk1 hFc (fun _ _ h => by simp at h) ⟨fun _ _ _ _ h => by simp at h, fun _ _ h => by simp at h⟩
    have hP : va_P D vwCl [(ma 2, .inl (kc 1, 130, .inr (.inl z1))), (ma 1, .inl (kc 0, 2880, .inl f9_59))] H := hP
    have hD : va_D A [(ma 2, .inl (kc 1, 130, .inr (.inl z1))), (ma 1, .inl (kc 0, 2880, .inl f9_59))] := hD
    subst hw
    exact W.iret (v := 0) hx hb hr (fun t9 ht hW => ⟨⟨0, (), rfl, by first | exact (if_pos h_a0).symm | decide, trivial⟩, hS.F ht⟩) hS.2.2 dX12_street_127
theorem dX12_days_0 : decode cX12_days 0 = .ok (.aload_n 0, 1) := by decide +kernel
theorem dX12_days_1 : decode cX12_days 1 = .ok (.iload_n 1, 1) := by decide +kernel
theorem dX12_days_2 : decode cX12_days 2 = .ok (.sipush 300, 3) := by decide +kernel
theorem dX12_days_5 : decode cX12_days 5 = .ok (.invokevirtual 220, 3) := by decide +kernel
theorem dX12_days_8 : decode cX12_days 8 = .ok (.ifCond .ne 9, 3) := by decide +kernel
theorem dX12_days_11 : decode cX12_days 11 = .ok (.aload_n 0, 1) := by decide +kernel
theorem dX12_days_12 : decode cX12_days 12 = .ok (.iconst 1, 1) := by decide +kernel
theorem dX12_days_13 : decode cX12_days 13 = .ok (.invokevirtual 72, 3) := by decide +kernel
theorem dX12_days_16 : decode cX12_days 16 = .ok (.ireturn, 1) := by decide +kernel
theorem dX12_days_17 : decode cX12_days 17 = .ok (.aload_n 0, 1) := by decide +kernel
theorem dX12_days_18 : decode cX12_days 18 = .ok (.getfield 7, 3) := by decide +kernel
theorem dX12_days_21 : decode cX12_days 21 = .ok (.sipush 1931, 3) := by decide +kernel
theorem dX12_days_24 : decode cX12_days 24 = .ok (.iconst 0, 1) := by decide +kernel
theorem dX12_days_25 : decode cX12_days 25 = .ok (.iastore, 1) := by decide +kernel
theorem dX12_days_26 : decode cX12_days 26 = .ok (.aload_n 0, 1) := by decide +kernel
theorem dX12_days_27 : decode cX12_days 27 = .ok (.iconst 0, 1) := by decide +kernel
theorem dX12_days_28 : decode cX12_days 28 = .ok (.putfield 239, 3) := by decide +kernel
theorem dX12_days_31 : decode cX12_days 31 = .ok (.aload_n 0, 1) := by decide +kernel
theorem dX12_days_32 : decode cX12_days 32 = .ok (.iconst 0, 1) := by decide +kernel
theorem dX12_days_33 : decode cX12_days 33 = .ok (.putfield 242, 3) := by decide +kernel
theorem dX12_days_36 : decode cX12_days 36 = .ok (.iconst 1, 1) := by decide +kernel
theorem dX12_days_37 : decode cX12_days 37 = .ok (.istore_n 2, 1) := by decide +kernel
theorem dX12_days_38 : decode cX12_days 38 = .ok (.iload_n 2, 1) := by decide +kernel
theorem dX12_days_39 : decode cX12_days 39 = .ok (.ifCond .eq 18, 3) := by decide +kernel
theorem dX12_days_42 : decode cX12_days 42 = .ok (.aload_n 0, 1) := by decide +kernel
theorem dX12_days_43 : decode cX12_days 43 = .ok (.getfield 117, 3) := by decide +kernel
theorem dX12_days_46 : decode cX12_days 46 = .ok (.ifCond .eq 11, 3) := by decide +kernel
theorem dX12_days_57 : decode cX12_days 57 = .ok (.aload_n 0, 1) := by decide +kernel
theorem dX12_days_58 : decode cX12_days 58 = .ok (.getfield 142, 3) := by decide +kernel
theorem dX12_days_61 : decode cX12_days 61 = .ok (.ifCond .ne 16, 3) := by decide +kernel
theorem dX12_days_64 : decode cX12_days 64 = .ok (.aload_n 0, 1) := by decide +kernel
theorem dX12_days_65 : decode cX12_days 65 = .ok (.getfield 239, 3) := by decide +kernel
theorem dX12_days_68 : decode cX12_days 68 = .ok (.ifCond .le 9, 3) := by decide +kernel
theorem dX12_days_77 : decode cX12_days 77 = .ok (.aload_n 0, 1) := by decide +kernel
theorem dX12_days_78 : decode cX12_days 78 = .ok (.getfield 142, 3) := by decide +kernel
theorem dX12_days_81 : decode cX12_days 81 = .ok (.ifCond .ne 50, 3) := by decide +kernel
theorem dX12_days_84 : decode cX12_days 84 = .ok (.aload_n 0, 1) := by decide +kernel
theorem dX12_days_85 : decode cX12_days 85 = .ok (.getfield 7, 3) := by decide +kernel
theorem dX12_days_88 : decode cX12_days 88 = .ok (.bipush 11, 2) := by decide +kernel
theorem dX12_days_90 : decode cX12_days 90 = .ok (.aload_n 0, 1) := by decide +kernel
theorem dX12_days_91 : decode cX12_days 91 = .ok (.getfield 7, 3) := by decide +kernel
theorem dX12_days_94 : decode cX12_days 94 = .ok (.sipush 1931, 3) := by decide +kernel
theorem dX12_days_97 : decode cX12_days 97 = .ok (.iaload, 1) := by decide +kernel
theorem dX12_days_98 : decode cX12_days 98 = .ok (.iastore, 1) := by decide +kernel
theorem dX12_days_99 : decode cX12_days 99 = .ok (.bipush 110, 2) := by decide +kernel
theorem dX12_days_101 : decode cX12_days 101 = .ok (.istore_n 3, 1) := by decide +kernel
theorem dX12_days_102 : decode cX12_days 102 = .ok (.iload_n 3, 1) := by decide +kernel
theorem dX12_days_103 : decode cX12_days 103 = .ok (.sipush 480, 3) := by decide +kernel
theorem dX12_days_106 : decode cX12_days 106 = .ok (.if_icmp .ge 25, 3) := by decide +kernel
theorem dX12_days_109 : decode cX12_days 109 = .ok (.aload_n 0, 1) := by decide +kernel
theorem dX12_days_110 : decode cX12_days 110 = .ok (.getfield 7, 3) := by decide +kernel
theorem dX12_days_113 : decode cX12_days 113 = .ok (.iload_n 3, 1) := by decide +kernel
theorem dX12_days_114 : decode cX12_days 114 = .ok (.aload_n 0, 1) := by decide +kernel
theorem dX12_days_115 : decode cX12_days 115 = .ok (.getfield 7, 3) := by decide +kernel
theorem dX12_days_118 : decode cX12_days 118 = .ok (.sipush 1920, 3) := by decide +kernel
theorem dX12_days_121 : decode cX12_days 121 = .ok (.iload_n 3, 1) := by decide +kernel
theorem dX12_days_122 : decode cX12_days 122 = .ok (.iadd, 1) := by decide +kernel
theorem dX12_days_123 : decode cX12_days 123 = .ok (.iaload, 1) := by decide +kernel
theorem dX12_days_124 : decode cX12_days 124 = .ok (.iastore, 1) := by decide +kernel
theorem dX12_days_125 : decode cX12_days 125 = .ok (.iinc 3 1, 3) := by decide +kernel
theorem dX12_days_128 : decode cX12_days 128 = .ok (.goto (-26), 3) := by decide +kernel
theorem dX12_days_131 : decode cX12_days 131 = .ok (.aload_n 0, 1) := by decide +kernel
theorem dX12_days_132 : decode cX12_days 132 = .ok (.aload_n 0, 1) := by decide +kernel
theorem dX12_days_133 : decode cX12_days 133 = .ok (.getfield 242, 3) := by decide +kernel
theorem dX12_days_136 : decode cX12_days 136 = .ok (.invokevirtual 227, 3) := by decide +kernel
theorem dX12_days_139 : decode cX12_days 139 = .ok (.ireturn, 1) := by decide +kernel
def vdq_days_0 : List Cond := [.code yX12_days cX12_days 4 (some .int), .methodLink RX12 220 yX12_begins, .code yX12_begins cX12_begins 4 (some .boolean), .fieldLink RX12 96 "SaltStreetModel" "taped" "I", .instanceMethod yX12_begins, .selects RX12 yX12_begins yX12_begins, .initialized RX12, .methodLink RX12 72 yX12_refuse, .code yX12_refuse cX12_refuse 2 (some .int), .fieldLink RX12 66 "SaltStreetModel" "status" "I", .instanceMethod yX12_refuse, .selects RX12 yX12_refuse yX12_refuse, .fieldLink RX12 102 "SaltStreetModel" "size" "I", .fieldLink RX12 142 "SaltStreetModel" "faults" "I", .fieldLink RX12 41 "SaltStreetModel" "faultPlace" "I", .fieldLink RX12 105 "SaltStreetModel" "end" "I", .fieldLink RX12 145 "SaltStreetModel" "seen" "I", .methodLink RX12 148 yX12_ahead, .code yX12_ahead cX12_ahead 2 none, .methodLink RX12 108 yX12_byteAt, .code yX12_byteAt cX12_byteAt 2 (some .int), .instanceMethod yX12_byteAt, .selects RX12 yX12_byteAt yX12_byteAt, .fieldLink RX12 111 "SaltStreetModel" "from" "I"]
def vdq_days_1 : List Cond := [.fieldLink RX12 114 "SaltStreetModel" "value" "I", .fieldLink RX12 117 "SaltStreetModel" "token" "I", .instanceMethod yX12_ahead, .selects RX12 yX12_ahead yX12_ahead, .fieldLink RX12 7 "SaltStreetModel" "at" "[I", .fieldLink RX12 239 "SaltStreetModel" "depth" "I", .fieldLink RX12 242 "SaltStreetModel" "counted" "I", .methodLink RX12 227 yX12_taken, .code yX12_taken cX12_taken 2 (some .int), .fieldLink RX12 37 "SaltStreetModel" "faultKind" "I", .methodLink RX12 76 yX12_gives, .code yX12_gives cX12_gives 2 (some .int), .instanceMethod yX12_gives, .selects RX12 yX12_gives yX12_gives, .instanceMethod yX12_taken, .selects RX12 yX12_taken yX12_taken]
def vdq_days : List Cond := (vdq_days_0 ++ vdq_days_1)
def vq_days : List Cond := vdq_days ++ (wsX120 ++ ([] : List Cond))
theorem iq_days_X12 : ∀ w ∈ wsX120, w ∈ vq_days := fun _ h => List.mem_append_right _ (List.mem_append_left _ h)
set_option maxRecDepth 20000 in
theorem gq_days_220_m_beginsNo : GoodIn vq_days (wsV RX12 220 RX12 yX12_begins vm_beginsNo) := (goodIn_app (goodIn_r _ [1, 4, 5, 6] rfl (by decide +kernel)) (goodIn_app (goodIn_r vdm_beginsNo [2, 3] rfl (by decide +kernel)) (goodIn_app (goodIn_sub iq_days_X12 gdX12) goodIn_nil)))
set_option maxRecDepth 20000 in
theorem gq_days_72_m_refuse : GoodIn vq_days (wsV RX12 72 RX12 yX12_refuse vm_refuse) := (goodIn_app (goodIn_r _ [7, 10, 11, 6] rfl (by decide +kernel)) (goodIn_app (goodIn_r vdm_refuse [8, 9] rfl (by decide +kernel)) (goodIn_app (goodIn_sub iq_days_X12 gdX12) goodIn_nil)))
set_option maxRecDepth 20000 in
theorem gq_days_220_m_begins300 : GoodIn vq_days (wsV RX12 220 RX12 yX12_begins vm_begins300) := (goodIn_app (goodIn_r _ [1, 4, 5, 6] rfl (by decide +kernel)) (goodIn_app (goodIn_r vdm_begins300 [2, 3, 12, 13, 14, 15, 16, 17, 18, 19, 20, 21, 22, 6, 23, 24, 25, 26, 27] rfl (by decide +kernel)) (goodIn_app (goodIn_sub iq_days_X12 gdX12) goodIn_nil)))
set_option maxRecDepth 20000 in
theorem gq_days_227_m_taken : GoodIn vq_days (wsV RX12 227 RX12 yX12_taken vm_taken) := (goodIn_app (goodIn_r _ [31, 38, 39, 6] rfl (by decide +kernel)) (goodIn_app (goodIn_r vdm_taken [32, 13, 33, 34, 35, 9, 36, 37, 6] rfl (by decide +kernel)) (goodIn_app (goodIn_sub iq_days_X12 gdX12) goodIn_nil)))
set_option maxHeartbeats 4000000 in
set_option maxRecDepth 100000 in
theorem lp_days_9 {p : Program} {l : Launch} {e : Env} {R : Room} {s : State} {m : MethodId} {args : Array Value} {below : List Frame} {meth : Method} {c : Code} {cells slots : Nat} {Q : State → Prop} {A : Nat → Prop} {D : va_G} {kc : Nat → ClassId} (ma : Nat → Nat) (hx : p.tables.exec = Jvm.exec) (hb : c.code = cX12_days) (hml : c.maxLocals = 4) (hown : s.vm.findClass RX12 = some m.cls) (hts : ∀ w ∈ vq_days, w.before args s = true) (hE : EK D kc s) (kk : ∀ (f9 : Nat → Int32) (H : Heap) (locs : List Loc) (ls : Array Slot), True → va_P D vwCl [(ma 1, .inl (kc 0, 2880, .inl f9)), (ma 0, .inr (11, [.ref (ma 1), .ref (ma 2), .int 0, .long 0, .long 1, .ref (ma 3), .ref (ma 4), .ref (ma 5), .ref (ma 6), .ref (ma 7), .int 0, .int 0, .int 0, .int 0, .int 0, .int (-1), .int (-1), .int (-1), .int 0, .int 0, .int 0, .ref (ma 8), .int 0, .int 0, .int (-1), .int 0, .int 0, .int 0, .ref (ma 9), .int 0, .int 0, .ref (ma 10), .ref (ma 11), .ref (ma 12), .int 0, .int 0]))] H → va_D A [(ma 1, .inl (kc 0, 2880, .inl f9)), (ma 0, .inr (11, [.ref (ma 1), .ref (ma 2), .int 0, .long 0, .long 1, .ref (ma 3), .ref (ma 4), .ref (ma 5), .ref (ma 6), .ref (ma 7), .int 0, .int 0, .int 0, .int 0, .int 0, .int (-1), .int (-1), .int (-1), .int 0, .int 0, .int 0, .ref (ma 8), .int 0, .int 0, .int (-1), .int 0, .int 0, .int 0, .ref (ma 9), .int 0, .int 0, .ref (ma 10), .ref (ma 11), .ref (ma 12), .int 0, .int 0]))] → va_S A s.heap H locs → lv_has ls 4 [(3, .int (nI 480)), (2, .int 1), (0, .ref (ma 0)), (1, .int 0)] → W p l e R s m args below meth c H locs cells slots Q (F0 m 131 ls [])) : ∀ (n9 i9 : Nat), i9 ≤ 480 → 480 < i9 + n9 → ∀ (f9 : Nat → Int32) (H : Heap) (locs : List Loc) (ls : Array Slot), True → va_P D vwCl [(ma 1, .inl (kc 0, 2880, .inl f9)), (ma 0, .inr (11, [.ref (ma 1), .ref (ma 2), .int 0, .long 0, .long 1, .ref (ma 3), .ref (ma 4), .ref (ma 5), .ref (ma 6), .ref (ma 7), .int 0, .int 0, .int 0, .int 0, .int 0, .int (-1), .int (-1), .int (-1), .int 0, .int 0, .int 0, .ref (ma 8), .int 0, .int 0, .int (-1), .int 0, .int 0, .int 0, .ref (ma 9), .int 0, .int 0, .ref (ma 10), .ref (ma 11), .ref (ma 12), .int 0, .int 0]))] H → va_D A [(ma 1, .inl (kc 0, 2880, .inl f9)), (ma 0, .inr (11, [.ref (ma 1), .ref (ma 2), .int 0, .long 0, .long 1, .ref (ma 3), .ref (ma 4), .ref (ma 5), .ref (ma 6), .ref (ma 7), .int 0, .int 0, .int 0, .int 0, .int 0, .int (-1), .int (-1), .int (-1), .int 0, .int 0, .int 0, .ref (ma 8), .int 0, .int 0, .int (-1), .int 0, .int 0, .int 0, .ref (ma 9), .int 0, .int 0, .ref (ma 10), .ref (ma 11), .ref (ma 12), .int 0, .int 0]))] → va_S A s.heap H locs → lv_has ls 4 [(3, .int (nI i9)), (2, .int 1), (0, .ref (ma 0)), (1, .int 0)] → W p l e R s m args below meth c H locs cells slots Q (F0 m 102 ls []) := by
  have hK := hE.1
  intro n9
  induction n9 with
  | zero => intro i9 h1 h2; exact absurd h2 (by omega)
  | succ n9 ih =>
    intro i9 h1 h2 f9 H locs ls hI hP hD hS hl
    rcases Nat.lt_or_ge i9 480 with hlt | hge
    · refine lv_iload_n hx hb dX12_days_102 rfl (lv_at hl 0 rfl) ?_
      refine lv_sipush (v := 480) hx hb dX12_days_103 (by decide) ?_
      refine lv_icmp_ge (tgt := 131) hx hb dX12_days_106 (by decide) (fun h => absurd h (nI_ge hlt (by decide))) (fun _ => ?_)
      refine lv_aload_n hx hb dX12_days_109 rfl (lv_at hl 2 rfl) ?_
      refine va_get (D := D) (ci := 11) (v := .ref (ma 1)) (C := RX12) (T := TX12) (N := 36) hx hb hts iq_days_X12 hown hK hP 1 rfl rfl 0 (by decide) (hts (.fieldLink RX12 7 "SaltStreetModel" "at" "[I") (List.mem_of_getElem? (i := 28) rfl)) (fun _ h9 => h9) rfl dX12_days_110 ?_
      refine lv_iload_n hx hb dX12_days_113 rfl (lv_at hl 0 rfl) ?_
      refine lv_aload_n hx hb dX12_days_114 rfl (lv_at hl 2 rfl) ?_
      refine va_get (D := D) (ci := 11) (v := .ref (ma 1)) (C := RX12) (T := TX12) (N := 36) hx hb hts iq_days_X12 hown hK hP 1 rfl rfl 0 (by decide) (hts (.fieldLink RX12 7 "SaltStreetModel" "at" "[I") (List.mem_of_getElem? (i := 28) rfl)) (fun _ h9 => h9) rfl dX12_days_115 ?_
      refine lv_sipush (v := 1920) hx hb dX12_days_118 (by decide) ?_
      refine lv_iload_n hx hb dX12_days_121 rfl (lv_at hl 0 rfl) ?_
      refine lv_iadd hx hb dX12_days_122 ?_
      refine lv_ci (y := (nI (1920 + i9))) (nI_add _ _) ?_
      refine va_iald hx hb hK hP 0 0 (f := f9) rfl rfl (vp_in_nI (by omega) (by decide)) dX12_days_123 ?_
      refine va_iast hx hb hK hP hD hS 0 0 (f := f9) rfl rfl (vp_in_nI (by omega) (by decide)) dX12_days_124 (fun H locs hP hD hS => ?_)
      have hP : va_P D vwCl [(ma 1, .inl (kc 0, 2880, .inl (upd f9 ((nI i9) : Int32).toNatClampNeg (f9 ((nI (1920 + i9)) : Int32).toNatClampNeg)))), (ma 0, .inr (11, [.ref (ma 1), .ref (ma 2), .int 0, .long 0, .long 1, .ref (ma 3), .ref (ma 4), .ref (ma 5), .ref (ma 6), .ref (ma 7), .int 0, .int 0, .int 0, .int 0, .int 0, .int (-1), .int (-1), .int (-1), .int 0, .int 0, .int 0, .ref (ma 8), .int 0, .int 0, .int (-1), .int 0, .int 0, .int 0, .ref (ma 9), .int 0, .int 0, .ref (ma 10), .ref (ma 11), .ref (ma 12), .int 0, .int 0]))] H := hP
      have hD : va_D A [(ma 1, .inl (kc 0, 2880, .inl (upd f9 ((nI i9) : Int32).toNatClampNeg (f9 ((nI (1920 + i9)) : Int32).toNatClampNeg)))), (ma 0, .inr (11, [.ref (ma 1), .ref (ma 2), .int 0, .long 0, .long 1, .ref (ma 3), .ref (ma 4), .ref (ma 5), .ref (ma 6), .ref (ma 7), .int 0, .int 0, .int 0, .int 0, .int 0, .int (-1), .int (-1), .int (-1), .int 0, .int 0, .int 0, .ref (ma 8), .int 0, .int 0, .int (-1), .int 0, .int 0, .int 0, .ref (ma 9), .int 0, .int 0, .ref (ma 10), .ref (ma 11), .ref (ma 12), .int 0, .int 0]))] := hD
      refine lv_iinc (v := (nI (i9 + 1))) (lv' := [(3, .int (nI (i9 + 1))), (2, .int 1), (0, .ref (ma 0)), (1, .int 0)]) hx hb dX12_days_125 hl (k := 0) rfl (nI_1 _) (by decide) rfl (fun ls hl => ?_)
      refine lv_goto (tgt := 102) hx hb dX12_days_128 (by decide) ?_
      exact ih (i9 + 1) (by omega) (by omega) (upd f9 ((nI i9) : Int32).toNatClampNeg (f9 ((nI (1920 + i9)) : Int32).toNatClampNeg)) H locs ls (trivial) hP hD hS (lv_sub hl [0, 1, 2, 3] rfl)
    · obtain rfl : i9 = 480 := by omega
      refine lv_iload_n hx hb dX12_days_102 rfl (lv_at hl 0 rfl) ?_
      refine lv_sipush (v := 480) hx hb dX12_days_103 (by decide) ?_
      refine lv_icmp_ge (tgt := 131) hx hb dX12_days_106 (by decide) (fun _ => ?_) (fun h => absurd (Int32.le_refl _) h)
      exact kk f9 H locs ls hI hP hD hS (lv_sub hl [0, 1, 2, 3] rfl)
set_option maxHeartbeats 4000000 in
set_option maxRecDepth 100000 in
theorem q_days (l : Launch) (D : va_G) (kc : Nat → ClassId) (sz : Nat) (ma : Nat → Nat) (a0 : Int32) : Met l yX12_days vq_days ({ frames := 3, cells := 0, slots := 0, locals := 65 }) (va_Pc [.ref (ma 0), .int a0] (wPre D kc [(ma 0, .inr (11, [.ref (ma 1), .ref (ma 2), .int 0, .long 0, .long 1, .ref (ma 3), .ref (ma 4), .ref (ma 5), .ref (ma 6), .ref (ma 7), .int 0, .int 0, .int 0, .int 0, .int 0, .int 0, .int (-1), .int (-1), .int 0, .int 0, .int 0, .ref (ma 8), .int 0, .int 0, .int (-1), .int 0, .int 0, .int 0, .ref (ma 9), .int 0, .int 0, .ref (ma 10), .ref (ma 11), .ref (ma 12), .int 0, .int 0])), (ma 1, .inl (kc 0, 2880, .inl at0))] sz)) (va_Qi (fun (r : Int32) (_ : Unit) => r = (sZ a0)) wAny (va_A [(ma 0, .inr (11, [.ref (ma 1), .ref (ma 2), .int 0, .long 0, .long 1, .ref (ma 3), .ref (ma 4), .ref (ma 5), .ref (ma 6), .ref (ma 7), .int 0, .int 0, .int 0, .int 0, .int 0, .int 0, .int (-1), .int (-1), .int 0, .int 0, .int 0, .ref (ma 8), .int 0, .int 0, .int (-1), .int 0, .int 0, .int 0, .ref (ma 9), .int 0, .int 0, .ref (ma 10), .ref (ma 11), .ref (ma 12), .int 0, .int 0])), (ma 1, .inl (kc 0, 2880, .inl at0))] sz)) 0 0 (va_A [(ma 0, .inr (11, [.ref (ma 1), .ref (ma 2), .int 0, .long 0, .long 1, .ref (ma 3), .ref (ma 4), .ref (ma 5), .ref (ma 6), .ref (ma 7), .int 0, .int 0, .int 0, .int 0, .int 0, .int 0, .int (-1), .int (-1), .int 0, .int 0, .int 0, .ref (ma 8), .int 0, .int 0, .int (-1), .int 0, .int 0, .int 0, .ref (ma 9), .int 0, .int 0, .ref (ma 10), .ref (ma 11), .ref (ma 12), .int 0, .int 0])), (ma 1, .inl (kc 0, 2880, .inl at0))] sz) := by
  refine Met.ofW (cc := cX12_days) (maxL := 4) (ret := (some .int)) (by decide) rfl ?_
  intro p e s m args below meth c s₁ B hml hv
  obtain ⟨rfl, hsz, hP, hE, hD0⟩ := hv
  have hx := B.exec
  have hb := B.bytes
  have hr := B.returns
  have hts := atoms_spec (ws := vq_days) B.pre
  have hown : s.vm.findClass RX12 = some m.cls := findClass_of_methodNamed B.named
  have hlocks := B.notSynchronized
  subst hsz
  have hD := hD0.self (sz := s.heap.size)
  generalize hAe : va_A [(ma 0, .inr (11, [.ref (ma 1), .ref (ma 2), .int 0, .long 0, .long 1, .ref (ma 3), .ref (ma 4), .ref (ma 5), .ref (ma 6), .ref (ma 7), .int 0, .int 0, .int 0, .int 0, .int 0, .int 0, .int (-1), .int (-1), .int 0, .int 0, .int 0, .ref (ma 8), .int 0, .int 0, .int (-1), .int 0, .int 0, .int 0, .ref (ma 9), .int 0, .int 0, .ref (ma 10), .ref (ma 11), .ref (ma 12), .int 0, .int 0])), (ma 1, .inl (kc 0, 2880, .inl at0))] s.heap.size = A at hD ⊢
  have hA : ∀ q : Nat, s.heap.size ≤ q → A q := fun q h => by rw [← hAe]; exact Or.inr h
  have hS : va_S A s.heap s.heap [] := va_S.rf
  have hK := hE.1
  have hP : va_P D vwCl [(ma 0, .inr (11, [.ref (ma 1), .ref (ma 2), .int 0, .long 0, .long 1, .ref (ma 3), .ref (ma 4), .ref (ma 5), .ref (ma 6), .ref (ma 7), .int 0, .int 0, .int 0, .int 0, .int 0, .int 0, .int (-1), .int (-1), .int 0, .int 0, .int 0, .ref (ma 8), .int 0, .int 0, .int (-1), .int 0, .int 0, .int 0, .ref (ma 9), .int 0, .int 0, .ref (ma 10), .ref (ma 11), .ref (ma 12), .int 0, .int 0])), (ma 1, .inl (kc 0, 2880, .inl at0))] s.heap := hP
  have hl := lv_entry ([.ref (ma 0), .int a0]) (n := 4) (Nat.le_of_ble_eq_true rfl)
  rw [lg_entry_eq]
  generalize (lg_sl ([.ref (ma 0), .int a0]) ++ List.replicate (4 - (lg_sl ([.ref (ma 0), .int a0])).length) Slot.unset).toArray = ls at hl ⊢
  have hl : lv_has ls 4 [(0, .ref (ma 0)), (1, .int a0)] := hl
  rcases z_cases a0 with h_a0 | rfl
  · refine lv_aload_n hx hb dX12_days_0 rfl (lv_at hl 0 rfl) ?_
    refine lv_iload_n hx hb dX12_days_1 rfl (lv_at hl 1 rfl) ?_
    refine lv_sipush (v := 300) hx hb dX12_days_2 (by decide) ?_
    have hPc := hP.sub (ws' := [(ma 0, .inr (11, [.ref (ma 1), .ref (ma 2), .int 0, .long 0, .long 1, .ref (ma 3), .ref (ma 4), .ref (ma 5), .ref (ma 6), .ref (ma 7), .int 0, .int 0, .int 0, .int 0, .int 0, .int 0, .int (-1), .int (-1), .int 0, .int 0, .int 0, .ref (ma 8), .int 0, .int 0, .int (-1), .int 0, .int 0, .int 0, .ref (ma 9), .int 0, .int 0, .ref (ma 10), .ref (ma 11), .ref (ma 12), .int 0, .int 0]))]) [0] rfl
    have hDc := hD.sub (ws' := [(ma 0, .inr (11, [.ref (ma 1), .ref (ma 2), .int 0, .long 0, .long 1, .ref (ma 3), .ref (ma 4), .ref (ma 5), .ref (ma 6), .ref (ma 7), .int 0, .int 0, .int 0, .int 0, .int 0, .int 0, .int (-1), .int (-1), .int 0, .int 0, .int 0, .ref (ma 8), .int 0, .int 0, .int (-1), .int 0, .int 0, .int 0, .ref (ma 9), .int 0, .int 0, .ref (ma 10), .ref (ma 11), .ref (ma 12), .int 0, .int 0]))]) [0] (by decide) rfl
    have hFc := va_free (wc := [(ma 0, .inr (11, [.ref (ma 1), .ref (ma 2), .int 0, .long 0, .long 1, .ref (ma 3), .ref (ma 4), .ref (ma 5), .ref (ma 6), .ref (ma 7), .int 0, .int 0, .int 0, .int 0, .int 0, .int 0, .int (-1), .int (-1), .int 0, .int 0, .int 0, .ref (ma 8), .int 0, .int 0, .int (-1), .int 0, .int 0, .int 0, .ref (ma 9), .int 0, .int 0, .ref (ma 10), .ref (ma 11), .ref (ma 12), .int 0, .int 0]))]) hD hS hA [0] rfl
    refine va_calli (va_runV (As := [.int a0, .int 300]) (rest := []) ⟨hx, hb, hml, hown, hts⟩ (m_beginsNo l D kc s.heap.size ma a0 300 h_a0) (cwV 2 hts gq_days_220_m_beginsNo rfl rfl rfl (by decide +kernel) ⟨Nat.le_of_ble_eq_true rfl, Nat.le_of_ble_eq_true rfl⟩) (preV_ok hPc hDc hE (ci := 11) (q0 := 0) rfl rfl) rfl rfl hl.1 rfl (lv_room (Nat.le_of_ble_eq_true rfl)) dX12_days_5 ⟨Nat.le_of_ble_eq_true rfl, Nat.le_of_ble_eq_true rfl⟩) hS (fun q _ h => hFc q h) hFc (fun r_5 u9 t9 H locs ht hvm hw hB hz1 hk1 hS => ?_)
    obtain ⟨hP1, hD1⟩ := hB
    rw [ht] at hP1
    obtain ⟨hP, hD⟩ := va_join (wr := [(ma 1, .inl (kc 0, 2880, .inl at0))]) (w1 := [(ma 0, .inr (11, [.ref (ma 1), .ref (ma 2), .int 0, .long 0, .long 1, .ref (ma 3), .ref (ma 4), .ref (ma 5), .ref (ma 6), .ref (ma 7), .int 0, .int 0, .int 0, .int 0, .int 0, .int 0, .int (-1), .int (-1), .int 0, .int 0, .int 0, .ref (ma 8), .int 0, .int 0, .int (-1), .int 0, .int 0, .int 0, .ref (ma 9), .int 0, .int 0, .ref (ma 10), .ref (ma 11), .ref (ma 12), .int 0, .int 0]))]) hP hD [0] [1] rfl rfl (by decide) (by decide) hk1 hFc hP1 hD1
    have hP : va_P D vwCl [(ma 1, .inl (kc 0, 2880, .inl at0)), (ma 0, .inr (11, [.ref (ma 1), .ref (ma 2), .int 0, .long 0, .long 1, .ref (ma 3), .ref (ma 4), .ref (ma 5), .ref (ma 6), .ref (ma 7), .int 0, .int 0, .int 0, .int 0, .int 0, .int 0, .int (-1), .int (-1), .int 0, .int 0, .int 0, .ref (ma 8), .int 0, .int 0, .int (-1), .int 0, .int 0, .int 0, .ref (ma 9), .int 0, .int 0, .ref (ma 10), .ref (ma 11), .ref (ma 12), .int 0, .int 0]))] H := hP
    have hD : va_D A [(ma 1, .inl (kc 0, 2880, .inl at0)), (ma 0, .inr (11, [.ref (ma 1), .ref (ma 2), .int 0, .long 0, .long 1, .ref (ma 3), .ref (ma 4), .ref (ma 5), .ref (ma 6), .ref (ma 7), .int 0, .int 0, .int 0, .int 0, .int 0, .int 0, .int (-1), .int (-1), .int 0, .int 0, .int 0, .ref (ma 8), .int 0, .int 0, .int (-1), .int 0, .int 0, .int 0, .ref (ma 9), .int 0, .int 0, .ref (ma 10), .ref (ma 11), .ref (ma 12), .int 0, .int 0]))] := hD
    subst hw
    refine lv_if_ne (tgt := 17) hx hb dX12_days_8 (by decide) (fun h => absurd (by decide) h) (fun _ => ?_)
    refine lv_aload_n hx hb dX12_days_11 rfl (lv_at hl 0 rfl) ?_
    refine lv_iconst (v := 1) hx hb dX12_days_12 (by decide) ?_
    have hPc := hP.sub (ws' := [(ma 0, .inr (11, [.ref (ma 1), .ref (ma 2), .int 0, .long 0, .long 1, .ref (ma 3), .ref (ma 4), .ref (ma 5), .ref (ma 6), .ref (ma 7), .int 0, .int 0, .int 0, .int 0, .int 0, .int 0, .int (-1), .int (-1), .int 0, .int 0, .int 0, .ref (ma 8), .int 0, .int 0, .int (-1), .int 0, .int 0, .int 0, .ref (ma 9), .int 0, .int 0, .ref (ma 10), .ref (ma 11), .ref (ma 12), .int 0, .int 0]))]) [1] rfl
    have hDc := hD.sub (ws' := [(ma 0, .inr (11, [.ref (ma 1), .ref (ma 2), .int 0, .long 0, .long 1, .ref (ma 3), .ref (ma 4), .ref (ma 5), .ref (ma 6), .ref (ma 7), .int 0, .int 0, .int 0, .int 0, .int 0, .int 0, .int (-1), .int (-1), .int 0, .int 0, .int 0, .ref (ma 8), .int 0, .int 0, .int (-1), .int 0, .int 0, .int 0, .ref (ma 9), .int 0, .int 0, .ref (ma 10), .ref (ma 11), .ref (ma 12), .int 0, .int 0]))]) [1] (by decide) rfl
    have hFc := va_free (wc := [(ma 0, .inr (11, [.ref (ma 1), .ref (ma 2), .int 0, .long 0, .long 1, .ref (ma 3), .ref (ma 4), .ref (ma 5), .ref (ma 6), .ref (ma 7), .int 0, .int 0, .int 0, .int 0, .int 0, .int 0, .int (-1), .int (-1), .int 0, .int 0, .int 0, .ref (ma 8), .int 0, .int 0, .int (-1), .int 0, .int 0, .int 0, .ref (ma 9), .int 0, .int 0, .ref (ma 10), .ref (ma 11), .ref (ma 12), .int 0, .int 0]))]) hD hS hA [1] rfl
    refine va_calli (va_runV (As := [.int 1]) (rest := []) ⟨hx, hb, hml, hown, hts⟩ (m_refuse l D kc H.size ma 0 0 1 0 0 0 0 0 0 (-1) (-1) 0 0 0 0 0 (-1) 0 0 0 0 0 0 0 1) (cwV 1 hts gq_days_72_m_refuse rfl rfl rfl (by decide +kernel) ⟨Nat.le_of_ble_eq_true rfl, Nat.le_of_ble_eq_true rfl⟩) (preV_ok hPc hDc hE (ci := 11) (q0 := 0) rfl rfl) rfl rfl hl.1 rfl (lv_room (Nat.le_of_ble_eq_true rfl)) dX12_days_13 ⟨Nat.le_of_ble_eq_true rfl, Nat.le_of_ble_eq_true rfl⟩) hS (fun q _ h => hFc q h) hFc (fun r_13 u9 t9 H locs ht hvm hw hB hz1 hk1 hS => ?_)
    obtain ⟨hP1, hD1⟩ := hB
    rw [ht] at hP1
    obtain ⟨hP, hD⟩ := va_join (wr := [(ma 1, .inl (kc 0, 2880, .inl at0))]) (w1 := [(ma 0, .inr (11, [.ref (ma 1), .ref (ma 2), .int 1, .long 0, .long 1, .ref (ma 3), .ref (ma 4), .ref (ma 5), .ref (ma 6), .ref (ma 7), .int 0, .int 0, .int 0, .int 0, .int 0, .int 0, .int (-1), .int (-1), .int 0, .int 0, .int 0, .ref (ma 8), .int 0, .int 0, .int (-1), .int 0, .int 0, .int 0, .ref (ma 9), .int 0, .int 0, .ref (ma 10), .ref (ma 11), .ref (ma 12), .int 0, .int 0]))]) hP hD [1] [0] rfl rfl (by decide) (by decide) hk1 hFc hP1 hD1
    have hP : va_P D vwCl [(ma 1, .inl (kc 0, 2880, .inl at0)), (ma 0, .inr (11, [.ref (ma 1), .ref (ma 2), .int 1, .long 0, .long 1, .ref (ma 3), .ref (ma 4), .ref (ma 5), .ref (ma 6), .ref (ma 7), .int 0, .int 0, .int 0, .int 0, .int 0, .int 0, .int (-1), .int (-1), .int 0, .int 0, .int 0, .ref (ma 8), .int 0, .int 0, .int (-1), .int 0, .int 0, .int 0, .ref (ma 9), .int 0, .int 0, .ref (ma 10), .ref (ma 11), .ref (ma 12), .int 0, .int 0]))] H := hP
    have hD : va_D A [(ma 1, .inl (kc 0, 2880, .inl at0)), (ma 0, .inr (11, [.ref (ma 1), .ref (ma 2), .int 1, .long 0, .long 1, .ref (ma 3), .ref (ma 4), .ref (ma 5), .ref (ma 6), .ref (ma 7), .int 0, .int 0, .int 0, .int 0, .int 0, .int 0, .int (-1), .int (-1), .int 0, .int 0, .int 0, .ref (ma 8), .int 0, .int 0, .int (-1), .int 0, .int 0, .int 0, .ref (ma 9), .int 0, .int 0, .ref (ma 10), .ref (ma 11), .ref (ma 12), .int 0, .int 0]))] := hD
    subst hw
    exact W.iret (v := (-1)) hx hb hr (fun t9 ht hW => ⟨⟨(-1), (), rfl, by first | exact (if_pos h_a0).symm | decide, trivial⟩, hS.F ht⟩) hS.2.2 dX12_days_16
  · refine lv_aload_n hx hb dX12_days_0 rfl (lv_at hl 0 rfl) ?_
    refine lv_iload_n hx hb dX12_days_1 rfl (lv_at hl 1 rfl) ?_
    refine lv_sipush (v := 300) hx hb dX12_days_2 (by decide) ?_
    have hPc := hP.sub (ws' := [(ma 0, .inr (11, [.ref (ma 1), .ref (ma 2), .int 0, .long 0, .long 1, .ref (ma 3), .ref (ma 4), .ref (ma 5), .ref (ma 6), .ref (ma 7), .int 0, .int 0, .int 0, .int 0, .int 0, .int 0, .int (-1), .int (-1), .int 0, .int 0, .int 0, .ref (ma 8), .int 0, .int 0, .int (-1), .int 0, .int 0, .int 0, .ref (ma 9), .int 0, .int 0, .ref (ma 10), .ref (ma 11), .ref (ma 12), .int 0, .int 0]))]) [0] rfl
    have hDc := hD.sub (ws' := [(ma 0, .inr (11, [.ref (ma 1), .ref (ma 2), .int 0, .long 0, .long 1, .ref (ma 3), .ref (ma 4), .ref (ma 5), .ref (ma 6), .ref (ma 7), .int 0, .int 0, .int 0, .int 0, .int 0, .int 0, .int (-1), .int (-1), .int 0, .int 0, .int 0, .ref (ma 8), .int 0, .int 0, .int (-1), .int 0, .int 0, .int 0, .ref (ma 9), .int 0, .int 0, .ref (ma 10), .ref (ma 11), .ref (ma 12), .int 0, .int 0]))]) [0] (by decide) rfl
    have hFc := va_free (wc := [(ma 0, .inr (11, [.ref (ma 1), .ref (ma 2), .int 0, .long 0, .long 1, .ref (ma 3), .ref (ma 4), .ref (ma 5), .ref (ma 6), .ref (ma 7), .int 0, .int 0, .int 0, .int 0, .int 0, .int 0, .int (-1), .int (-1), .int 0, .int 0, .int 0, .ref (ma 8), .int 0, .int 0, .int (-1), .int 0, .int 0, .int 0, .ref (ma 9), .int 0, .int 0, .ref (ma 10), .ref (ma 11), .ref (ma 12), .int 0, .int 0]))]) hD hS hA [0] rfl
    refine va_calli (va_runV (As := [.int 0, .int 300]) (rest := []) ⟨hx, hb, hml, hown, hts⟩ (m_begins300 l D kc s.heap.size ma) (cwV 2 hts gq_days_220_m_begins300 rfl rfl rfl (by decide +kernel) ⟨Nat.le_of_ble_eq_true rfl, Nat.le_of_ble_eq_true rfl⟩) (preV_ok hPc hDc hE (ci := 11) (q0 := 0) rfl rfl) rfl rfl hl.1 rfl (lv_room (Nat.le_of_ble_eq_true rfl)) dX12_days_5 ⟨Nat.le_of_ble_eq_true rfl, Nat.le_of_ble_eq_true rfl⟩) hS (fun q _ h => hFc q h) hFc (fun r_5 u9 t9 H locs ht hvm hw hB hz1 hk1 hS => ?_)
    obtain ⟨hP1, hD1⟩ := hB
    rw [ht] at hP1
    obtain ⟨hP, hD⟩ := va_join (wr := [(ma 1, .inl (kc 0, 2880, .inl at0))]) (w1 := [(ma 0, .inr (11, [.ref (ma 1), .ref (ma 2), .int 0, .long 0, .long 1, .ref (ma 3), .ref (ma 4), .ref (ma 5), .ref (ma 6), .ref (ma 7), .int 0, .int 0, .int 0, .int 0, .int 0, .int (-1), .int (-1), .int (-1), .int 0, .int 0, .int 0, .ref (ma 8), .int 0, .int 0, .int (-1), .int 0, .int 0, .int 0, .ref (ma 9), .int 0, .int 0, .ref (ma 10), .ref (ma 11), .ref (ma 12), .int 0, .int 0]))]) hP hD [0] [1] rfl rfl (by decide) (by decide) hk1 hFc hP1 hD1
    have hP : va_P D vwCl [(ma 1, .inl (kc 0, 2880, .inl at0)), (ma 0, .inr (11, [.ref (ma 1), .ref (ma 2), .int 0, .long 0, .long 1, .ref (ma 3), .ref (ma 4), .ref (ma 5), .ref (ma 6), .ref (ma 7), .int 0, .int 0, .int 0, .int 0, .int 0, .int (-1), .int (-1), .int (-1), .int 0, .int 0, .int 0, .ref (ma 8), .int 0, .int 0, .int (-1), .int 0, .int 0, .int 0, .ref (ma 9), .int 0, .int 0, .ref (ma 10), .ref (ma 11), .ref (ma 12), .int 0, .int 0]))] H := hP
    have hD : va_D A [(ma 1, .inl (kc 0, 2880, .inl at0)), (ma 0, .inr (11, [.ref (ma 1), .ref (ma 2), .int 0, .long 0, .long 1, .ref (ma 3), .ref (ma 4), .ref (ma 5), .ref (ma 6), .ref (ma 7), .int 0, .int 0, .int 0, .int 0, .int 0, .int (-1), .int (-1), .int (-1), .int 0, .int 0, .int 0, .ref (ma 8), .int 0, .int 0, .int (-1), .int 0, .int 0, .int 0, .ref (ma 9), .int 0, .int 0, .ref (ma 10), .ref (ma 11), .ref (ma 12), .int 0, .int 0]))] := hD
    subst hw
    refine lv_if_ne (tgt := 17) hx hb dX12_days_8 (by decide) (fun _ => ?_) (fun h => absurd h (by decide))
    refine lv_aload_n hx hb dX12_days_17 rfl (lv_at hl 0 rfl) ?_
    refine va_get (D := D) (ci := 11) (v := .ref (ma 1)) (C := RX12) (T := TX12) (N := 36) hx hb hts iq_days_X12 hown hK hP 1 rfl rfl 0 (by decide) (hts (.fieldLink RX12 7 "SaltStreetModel" "at" "[I") (List.mem_of_getElem? (i := 28) rfl)) (fun _ h9 => h9) rfl dX12_days_18 ?_
    refine lv_sipush (v := 1931) hx hb dX12_days_21 (by decide) ?_
    refine lv_iconst (v := 0) hx hb dX12_days_24 (by decide) ?_
    refine va_iast hx hb hK hP hD hS 0 0 (f := at0) rfl rfl (by unfold vp_in; decide) dX12_days_25 (fun H locs hP hD hS => ?_)
    have hP : va_P D vwCl [(ma 1, .inl (kc 0, 2880, .inl (upd at0 (1931 : Int32).toNatClampNeg 0))), (ma 0, .inr (11, [.ref (ma 1), .ref (ma 2), .int 0, .long 0, .long 1, .ref (ma 3), .ref (ma 4), .ref (ma 5), .ref (ma 6), .ref (ma 7), .int 0, .int 0, .int 0, .int 0, .int 0, .int (-1), .int (-1), .int (-1), .int 0, .int 0, .int 0, .ref (ma 8), .int 0, .int 0, .int (-1), .int 0, .int 0, .int 0, .ref (ma 9), .int 0, .int 0, .ref (ma 10), .ref (ma 11), .ref (ma 12), .int 0, .int 0]))] H := hP
    have hD : va_D A [(ma 1, .inl (kc 0, 2880, .inl (upd at0 (1931 : Int32).toNatClampNeg 0))), (ma 0, .inr (11, [.ref (ma 1), .ref (ma 2), .int 0, .long 0, .long 1, .ref (ma 3), .ref (ma 4), .ref (ma 5), .ref (ma 6), .ref (ma 7), .int 0, .int 0, .int 0, .int 0, .int 0, .int (-1), .int (-1), .int (-1), .int 0, .int 0, .int 0, .ref (ma 8), .int 0, .int 0, .int (-1), .int 0, .int 0, .int 0, .ref (ma 9), .int 0, .int 0, .ref (ma 10), .ref (ma 11), .ref (ma 12), .int 0, .int 0]))] := hD
    refine lv_aload_n hx hb dX12_days_26 rfl (lv_at hl 0 rfl) ?_
    refine lv_iconst (v := 0) hx hb dX12_days_27 (by decide) ?_
    refine va_put (D := D) (ci := 11) (v := .int 0) (ty := .int) (C := RX12) (T := TX12) (N := 36) hx hb hts iq_days_X12 tyX12 tyX12_ok nmX12 hown hK hP hD hS 1 rfl rfl 22 (by decide) (hts (.fieldLink RX12 239 "SaltStreetModel" "depth" "I") (List.mem_of_getElem? (i := 29) rfl)) (fun _ h9 => h9) rfl (by decide +kernel) rfl rfl (Nat.le_of_ble_eq_true rfl) dX12_days_28 (fun H locs hP hD hS => ?_)
    have hP : va_P D vwCl [(ma 1, .inl (kc 0, 2880, .inl (upd at0 (1931 : Int32).toNatClampNeg 0))), (ma 0, .inr (11, [.ref (ma 1), .ref (ma 2), .int 0, .long 0, .long 1, .ref (ma 3), .ref (ma 4), .ref (ma 5), .ref (ma 6), .ref (ma 7), .int 0, .int 0, .int 0, .int 0, .int 0, .int (-1), .int (-1), .int (-1), .int 0, .int 0, .int 0, .ref (ma 8), .int 0, .int 0, .int (-1), .int 0, .int 0, .int 0, .ref (ma 9), .int 0, .int 0, .ref (ma 10), .ref (ma 11), .ref (ma 12), .int 0, .int 0]))] H := hP
    have hD : va_D A [(ma 1, .inl (kc 0, 2880, .inl (upd at0 (1931 : Int32).toNatClampNeg 0))), (ma 0, .inr (11, [.ref (ma 1), .ref (ma 2), .int 0, .long 0, .long 1, .ref (ma 3), .ref (ma 4), .ref (ma 5), .ref (ma 6), .ref (ma 7), .int 0, .int 0, .int 0, .int 0, .int 0, .int (-1), .int (-1), .int (-1), .int 0, .int 0, .int 0, .ref (ma 8), .int 0, .int 0, .int (-1), .int 0, .int 0, .int 0, .ref (ma 9), .int 0, .int 0, .ref (ma 10), .ref (ma 11), .ref (ma 12), .int 0, .int 0]))] := hD
    refine lv_aload_n hx hb dX12_days_31 rfl (lv_at hl 0 rfl) ?_
    refine lv_iconst (v := 0) hx hb dX12_days_32 (by decide) ?_
    refine va_put (D := D) (ci := 11) (v := .int 0) (ty := .int) (C := RX12) (T := TX12) (N := 36) hx hb hts iq_days_X12 tyX12 tyX12_ok nmX12 hown hK hP hD hS 1 rfl rfl 23 (by decide) (hts (.fieldLink RX12 242 "SaltStreetModel" "counted" "I") (List.mem_of_getElem? (i := 30) rfl)) (fun _ h9 => h9) rfl (by decide +kernel) rfl rfl (Nat.le_of_ble_eq_true rfl) dX12_days_33 (fun H locs hP hD hS => ?_)
    have hP : va_P D vwCl [(ma 1, .inl (kc 0, 2880, .inl (upd at0 (1931 : Int32).toNatClampNeg 0))), (ma 0, .inr (11, [.ref (ma 1), .ref (ma 2), .int 0, .long 0, .long 1, .ref (ma 3), .ref (ma 4), .ref (ma 5), .ref (ma 6), .ref (ma 7), .int 0, .int 0, .int 0, .int 0, .int 0, .int (-1), .int (-1), .int (-1), .int 0, .int 0, .int 0, .ref (ma 8), .int 0, .int 0, .int (-1), .int 0, .int 0, .int 0, .ref (ma 9), .int 0, .int 0, .ref (ma 10), .ref (ma 11), .ref (ma 12), .int 0, .int 0]))] H := hP
    have hD : va_D A [(ma 1, .inl (kc 0, 2880, .inl (upd at0 (1931 : Int32).toNatClampNeg 0))), (ma 0, .inr (11, [.ref (ma 1), .ref (ma 2), .int 0, .long 0, .long 1, .ref (ma 3), .ref (ma 4), .ref (ma 5), .ref (ma 6), .ref (ma 7), .int 0, .int 0, .int 0, .int 0, .int 0, .int (-1), .int (-1), .int (-1), .int 0, .int 0, .int 0, .ref (ma 8), .int 0, .int 0, .int (-1), .int 0, .int 0, .int 0, .ref (ma 9), .int 0, .int 0, .ref (ma 10), .ref (ma 11), .ref (ma 12), .int 0, .int 0]))] := hD
    refine lv_iconst (v := 1) hx hb dX12_days_36 (by decide) ?_
    refine lv_istore_n (lv' := [(2, .int 1), (0, .ref (ma 0)), (1, .int 0)]) hx hb dX12_days_37 rfl hl (by decide) rfl (fun ls hl => ?_)
    refine lv_iload_n hx hb dX12_days_38 rfl (lv_at hl 0 rfl) ?_
    refine lv_if_eq (tgt := 57) hx hb dX12_days_39 (by decide) (fun h => absurd h (by decide)) (fun _ => ?_)
    refine lv_aload_n hx hb dX12_days_42 rfl (lv_at hl 1 rfl) ?_
    refine va_get (D := D) (ci := 11) (v := .int 0) (C := RX12) (T := TX12) (N := 36) hx hb hts iq_days_X12 hown hK hP 1 rfl rfl 12 (by decide) (hts (.fieldLink RX12 117 "SaltStreetModel" "token" "I") (List.mem_of_getElem? (i := 25) rfl)) (fun _ h9 => h9) rfl dX12_days_43 ?_
    refine lv_if_eq (tgt := 57) hx hb dX12_days_46 (by decide) (fun _ => ?_) (fun h => absurd (by decide) h)
    refine lv_aload_n hx hb dX12_days_57 rfl (lv_at hl 1 rfl) ?_
    refine va_get (D := D) (ci := 11) (v := .int 0) (C := RX12) (T := TX12) (N := 36) hx hb hts iq_days_X12 hown hK hP 1 rfl rfl 18 (by decide) (hts (.fieldLink RX12 142 "SaltStreetModel" "faults" "I") (List.mem_of_getElem? (i := 13) rfl)) (fun _ h9 => h9) rfl dX12_days_58 ?_
    refine lv_if_ne (tgt := 77) hx hb dX12_days_61 (by decide) (fun h => absurd (by decide) h) (fun _ => ?_)
    refine lv_aload_n hx hb dX12_days_64 rfl (lv_at hl 1 rfl) ?_
    refine va_get (D := D) (ci := 11) (v := .int 0) (C := RX12) (T := TX12) (N := 36) hx hb hts iq_days_X12 hown hK hP 1 rfl rfl 22 (by decide) (hts (.fieldLink RX12 239 "SaltStreetModel" "depth" "I") (List.mem_of_getElem? (i := 29) rfl)) (fun _ h9 => h9) rfl dX12_days_65 ?_
    refine lv_if_le (tgt := 77) hx hb dX12_days_68 (by decide) (fun _ => ?_) (fun h => absurd (by decide) h)
    refine lv_aload_n hx hb dX12_days_77 rfl (lv_at hl 1 rfl) ?_
    refine va_get (D := D) (ci := 11) (v := .int 0) (C := RX12) (T := TX12) (N := 36) hx hb hts iq_days_X12 hown hK hP 1 rfl rfl 18 (by decide) (hts (.fieldLink RX12 142 "SaltStreetModel" "faults" "I") (List.mem_of_getElem? (i := 13) rfl)) (fun _ h9 => h9) rfl dX12_days_78 ?_
    refine lv_if_ne (tgt := 131) hx hb dX12_days_81 (by decide) (fun h => absurd (by decide) h) (fun _ => ?_)
    refine lv_aload_n hx hb dX12_days_84 rfl (lv_at hl 1 rfl) ?_
    refine va_get (D := D) (ci := 11) (v := .ref (ma 1)) (C := RX12) (T := TX12) (N := 36) hx hb hts iq_days_X12 hown hK hP 1 rfl rfl 0 (by decide) (hts (.fieldLink RX12 7 "SaltStreetModel" "at" "[I") (List.mem_of_getElem? (i := 28) rfl)) (fun _ h9 => h9) rfl dX12_days_85 ?_
    refine lv_bipush (v := 11) hx hb dX12_days_88 (by decide) ?_
    refine lv_aload_n hx hb dX12_days_90 rfl (lv_at hl 1 rfl) ?_
    refine va_get (D := D) (ci := 11) (v := .ref (ma 1)) (C := RX12) (T := TX12) (N := 36) hx hb hts iq_days_X12 hown hK hP 1 rfl rfl 0 (by decide) (hts (.fieldLink RX12 7 "SaltStreetModel" "at" "[I") (List.mem_of_getElem? (i := 28) rfl)) (fun _ h9 => h9) rfl dX12_days_91 ?_
    refine lv_sipush (v := 1931) hx hb dX12_days_94 (by decide) ?_
    refine va_iald hx hb hK hP 0 0 (f := (upd at0 (1931 : Int32).toNatClampNeg 0)) rfl rfl (by unfold vp_in; decide) dX12_days_97 ?_
    refine lv_ci (y := 0) (by decide) ?_
    refine va_iast hx hb hK hP hD hS 0 0 (f := (upd at0 (1931 : Int32).toNatClampNeg 0)) rfl rfl (by unfold vp_in; decide) dX12_days_98 (fun H locs hP hD hS => ?_)
    have hP : va_P D vwCl [(ma 1, .inl (kc 0, 2880, .inl (upd (upd at0 (1931 : Int32).toNatClampNeg 0) (11 : Int32).toNatClampNeg 0))), (ma 0, .inr (11, [.ref (ma 1), .ref (ma 2), .int 0, .long 0, .long 1, .ref (ma 3), .ref (ma 4), .ref (ma 5), .ref (ma 6), .ref (ma 7), .int 0, .int 0, .int 0, .int 0, .int 0, .int (-1), .int (-1), .int (-1), .int 0, .int 0, .int 0, .ref (ma 8), .int 0, .int 0, .int (-1), .int 0, .int 0, .int 0, .ref (ma 9), .int 0, .int 0, .ref (ma 10), .ref (ma 11), .ref (ma 12), .int 0, .int 0]))] H := hP
    have hD : va_D A [(ma 1, .inl (kc 0, 2880, .inl (upd (upd at0 (1931 : Int32).toNatClampNeg 0) (11 : Int32).toNatClampNeg 0))), (ma 0, .inr (11, [.ref (ma 1), .ref (ma 2), .int 0, .long 0, .long 1, .ref (ma 3), .ref (ma 4), .ref (ma 5), .ref (ma 6), .ref (ma 7), .int 0, .int 0, .int 0, .int 0, .int 0, .int (-1), .int (-1), .int (-1), .int 0, .int 0, .int 0, .ref (ma 8), .int 0, .int 0, .int (-1), .int 0, .int 0, .int 0, .ref (ma 9), .int 0, .int 0, .ref (ma 10), .ref (ma 11), .ref (ma 12), .int 0, .int 0]))] := hD
    refine lv_bipush (v := 110) hx hb dX12_days_99 (by decide) ?_
    refine lv_istore_n (lv' := [(3, .int 110), (2, .int 1), (0, .ref (ma 0)), (1, .int 0)]) hx hb dX12_days_101 rfl hl (by decide) rfl (fun ls hl => ?_)
    refine lp_days_9 ma hx hb hml hown hts hE (fun f9_102 H locs ls hI102 hP hD hS hl => ?_) (480 + 1) 110 (Nat.le_of_ble_eq_true rfl) (by omega) (upd (upd at0 (1931 : Int32).toNatClampNeg 0) (11 : Int32).toNatClampNeg 0) _ _ ls (trivial) hP hD hS (lv_sub hl [0, 1, 2, 3] rfl)
    refine lv_aload_n hx hb dX12_days_131 rfl (lv_at hl 2 rfl) ?_
    refine lv_aload_n hx hb dX12_days_132 rfl (lv_at hl 2 rfl) ?_
    refine va_get (D := D) (ci := 11) (v := .int 0) (C := RX12) (T := TX12) (N := 36) hx hb hts iq_days_X12 hown hK hP 1 rfl rfl 23 (by decide) (hts (.fieldLink RX12 242 "SaltStreetModel" "counted" "I") (List.mem_of_getElem? (i := 30) rfl)) (fun _ h9 => h9) rfl dX12_days_133 ?_
    have hPc := hP.sub (ws' := [(ma 0, .inr (11, [.ref (ma 1), .ref (ma 2), .int 0, .long 0, .long 1, .ref (ma 3), .ref (ma 4), .ref (ma 5), .ref (ma 6), .ref (ma 7), .int 0, .int 0, .int 0, .int 0, .int 0, .int (-1), .int (-1), .int (-1), .int 0, .int 0, .int 0, .ref (ma 8), .int 0, .int 0, .int (-1), .int 0, .int 0, .int 0, .ref (ma 9), .int 0, .int 0, .ref (ma 10), .ref (ma 11), .ref (ma 12), .int 0, .int 0]))]) [1] rfl
    have hDc := hD.sub (ws' := [(ma 0, .inr (11, [.ref (ma 1), .ref (ma 2), .int 0, .long 0, .long 1, .ref (ma 3), .ref (ma 4), .ref (ma 5), .ref (ma 6), .ref (ma 7), .int 0, .int 0, .int 0, .int 0, .int 0, .int (-1), .int (-1), .int (-1), .int 0, .int 0, .int 0, .ref (ma 8), .int 0, .int 0, .int (-1), .int 0, .int 0, .int 0, .ref (ma 9), .int 0, .int 0, .ref (ma 10), .ref (ma 11), .ref (ma 12), .int 0, .int 0]))]) [1] (by decide) rfl
    have hFc := va_free (wc := [(ma 0, .inr (11, [.ref (ma 1), .ref (ma 2), .int 0, .long 0, .long 1, .ref (ma 3), .ref (ma 4), .ref (ma 5), .ref (ma 6), .ref (ma 7), .int 0, .int 0, .int 0, .int 0, .int 0, .int (-1), .int (-1), .int (-1), .int 0, .int 0, .int 0, .ref (ma 8), .int 0, .int 0, .int (-1), .int 0, .int 0, .int 0, .ref (ma 9), .int 0, .int 0, .ref (ma 10), .ref (ma 11), .ref (ma 12), .int 0, .int 0]))]) hD hS hA [1] rfl
    refine va_calli (va_runV (As := [.int 0]) (rest := []) ⟨hx, hb, hml, hown, hts⟩ (m_taken l D kc H.size ma 0 0 1 0 0 0 0 0 (-1) (-1) (-1) 0 0 0 0 (-1) 0 0 0 0 0 0 0 0) (cwV 1 hts gq_days_227_m_taken rfl rfl rfl (by decide +kernel) ⟨Nat.le_of_ble_eq_true rfl, Nat.le_of_ble_eq_true rfl⟩) (preV_ok hPc hDc hE (ci := 11) (q0 := 0) rfl rfl) rfl rfl hl.1 rfl (lv_room (Nat.le_of_ble_eq_true rfl)) dX12_days_136 ⟨Nat.le_of_ble_eq_true rfl, Nat.le_of_ble_eq_true rfl⟩) hS (fun q _ h => hFc q h) hFc (fun r_136 u9 t9 H locs ht hvm hw hB hz1 hk1 hS => ?_)
    obtain ⟨hP, hD⟩ := va_join (wr := [(ma 1, .inl (kc 0, 2880, .inl f9_102))]) (w1 := []) hP hD [1] [0] rfl rfl (by decide) (by decide) hk1 hFc (fun _ _ h => by simp at h) ⟨fun _ _ _ _ h => by simp at h, fun _ _ h => by simp at h⟩
    have hP : va_P D vwCl [(ma 1, .inl (kc 0, 2880, .inl f9_102))] H := hP
    have hD : va_D A [(ma 1, .inl (kc 0, 2880, .inl f9_102))] := hD
    subst hw
    exact W.iret (v := 0) hx hb hr (fun t9 ht hW => ⟨⟨0, (), rfl, by first | exact (if_pos h_a0).symm | decide, trivial⟩, hS.F ht⟩) hS.2.2 dX12_days_139
theorem dX12_keepsAll_0 : decode cX12_keepsAll 0 = .ok (.iconst 0, 1) := by decide +kernel
theorem dX12_keepsAll_1 : decode cX12_keepsAll 1 = .ok (.istore_n 1, 1) := by decide +kernel
theorem dX12_keepsAll_2 : decode cX12_keepsAll 2 = .ok (.iload_n 1, 1) := by decide +kernel
theorem dX12_keepsAll_3 : decode cX12_keepsAll 3 = .ok (.bipush 110, 2) := by decide +kernel
theorem dX12_keepsAll_5 : decode cX12_keepsAll 5 = .ok (.if_icmp .ge 25, 3) := by decide +kernel
theorem dX12_keepsAll_8 : decode cX12_keepsAll 8 = .ok (.aload_n 0, 1) := by decide +kernel
theorem dX12_keepsAll_9 : decode cX12_keepsAll 9 = .ok (.getfield 7, 3) := by decide +kernel
theorem dX12_keepsAll_12 : decode cX12_keepsAll 12 = .ok (.sipush 2400, 3) := by decide +kernel
theorem dX12_keepsAll_15 : decode cX12_keepsAll 15 = .ok (.iload_n 1, 1) := by decide +kernel
theorem dX12_keepsAll_16 : decode cX12_keepsAll 16 = .ok (.iadd, 1) := by decide +kernel
theorem dX12_keepsAll_17 : decode cX12_keepsAll 17 = .ok (.aload_n 0, 1) := by decide +kernel
theorem dX12_keepsAll_18 : decode cX12_keepsAll 18 = .ok (.getfield 7, 3) := by decide +kernel
theorem dX12_keepsAll_21 : decode cX12_keepsAll 21 = .ok (.iload_n 1, 1) := by decide +kernel
theorem dX12_keepsAll_22 : decode cX12_keepsAll 22 = .ok (.iaload, 1) := by decide +kernel
theorem dX12_keepsAll_23 : decode cX12_keepsAll 23 = .ok (.iastore, 1) := by decide +kernel
theorem dX12_keepsAll_24 : decode cX12_keepsAll 24 = .ok (.iinc 1 1, 3) := by decide +kernel
theorem dX12_keepsAll_27 : decode cX12_keepsAll 27 = .ok (.goto (-25), 3) := by decide +kernel
theorem dX12_keepsAll_30 : decode cX12_keepsAll 30 = .ok (.return_, 1) := by decide +kernel
def vdm_keepsAll : List Cond := [.code yX12_keepsAll cX12_keepsAll 2 none, .fieldLink RX12 7 "SaltStreetModel" "at" "[I"]
def vm_keepsAll : List Cond := vdm_keepsAll ++ (wsX120 ++ ([] : List Cond))
theorem im_keepsAll_X12 : ∀ w ∈ wsX120, w ∈ vm_keepsAll := fun _ h => List.mem_append_right _ (List.mem_append_left _ h)
set_option maxHeartbeats 4000000 in
set_option maxRecDepth 100000 in
theorem lp_keep_10 {p : Program} {l : Launch} {e : Env} {R : Room} {s : State} {m : MethodId} {args : Array Value} {below : List Frame} {meth : Method} {c : Code} {cells slots : Nat} {Q : State → Prop} {A : Nat → Prop} {D : va_G} {kc : Nat → ClassId} (ma : Nat → Nat) (hx : p.tables.exec = Jvm.exec) (hb : c.code = cX12_keepsAll) (hml : c.maxLocals = 2) (hown : s.vm.findClass RX12 = some m.cls) (hts : ∀ w ∈ vm_keepsAll, w.before args s = true) (hE : EK D kc s) (kk : ∀ (f9 : Nat → Int32) (H : Heap) (locs : List Loc) (ls : Array Slot), f9 0 = 0 → va_P D vwCl [(ma 0, .inr (11, [.ref (ma 1), .ref (ma 2), .int 0, .long 0, .long 1, .ref (ma 3), .ref (ma 4), .ref (ma 5), .ref (ma 6), .ref (ma 7), .int 0, .int 0, .int 0, .int 0, .int 0, .int 0, .int (-1), .int (-1), .int 0, .int 0, .int 0, .ref (ma 8), .int 0, .int 0, .int (-1), .int 0, .int 0, .int 0, .ref (ma 9), .int 0, .int 0, .ref (ma 10), .ref (ma 11), .ref (ma 12), .int 0, .int 0])), (ma 1, .inl (kc 0, 2880, .inl f9))] H → va_D A [(ma 0, .inr (11, [.ref (ma 1), .ref (ma 2), .int 0, .long 0, .long 1, .ref (ma 3), .ref (ma 4), .ref (ma 5), .ref (ma 6), .ref (ma 7), .int 0, .int 0, .int 0, .int 0, .int 0, .int 0, .int (-1), .int (-1), .int 0, .int 0, .int 0, .ref (ma 8), .int 0, .int 0, .int (-1), .int 0, .int 0, .int 0, .ref (ma 9), .int 0, .int 0, .ref (ma 10), .ref (ma 11), .ref (ma 12), .int 0, .int 0])), (ma 1, .inl (kc 0, 2880, .inl f9))] → va_S A s.heap H locs → lv_has ls 2 [(1, .int (nI 110)), (0, .ref (ma 0))] → W p l e R s m args below meth c H locs cells slots Q (F0 m 30 ls [])) : ∀ (n9 i9 : Nat), i9 ≤ 110 → 110 < i9 + n9 → ∀ (f9 : Nat → Int32) (H : Heap) (locs : List Loc) (ls : Array Slot), f9 0 = 0 → va_P D vwCl [(ma 0, .inr (11, [.ref (ma 1), .ref (ma 2), .int 0, .long 0, .long 1, .ref (ma 3), .ref (ma 4), .ref (ma 5), .ref (ma 6), .ref (ma 7), .int 0, .int 0, .int 0, .int 0, .int 0, .int 0, .int (-1), .int (-1), .int 0, .int 0, .int 0, .ref (ma 8), .int 0, .int 0, .int (-1), .int 0, .int 0, .int 0, .ref (ma 9), .int 0, .int 0, .ref (ma 10), .ref (ma 11), .ref (ma 12), .int 0, .int 0])), (ma 1, .inl (kc 0, 2880, .inl f9))] H → va_D A [(ma 0, .inr (11, [.ref (ma 1), .ref (ma 2), .int 0, .long 0, .long 1, .ref (ma 3), .ref (ma 4), .ref (ma 5), .ref (ma 6), .ref (ma 7), .int 0, .int 0, .int 0, .int 0, .int 0, .int 0, .int (-1), .int (-1), .int 0, .int 0, .int 0, .ref (ma 8), .int 0, .int 0, .int (-1), .int 0, .int 0, .int 0, .ref (ma 9), .int 0, .int 0, .ref (ma 10), .ref (ma 11), .ref (ma 12), .int 0, .int 0])), (ma 1, .inl (kc 0, 2880, .inl f9))] → va_S A s.heap H locs → lv_has ls 2 [(1, .int (nI i9)), (0, .ref (ma 0))] → W p l e R s m args below meth c H locs cells slots Q (F0 m 2 ls []) := by
  have hK := hE.1
  intro n9
  induction n9 with
  | zero => intro i9 h1 h2; exact absurd h2 (by omega)
  | succ n9 ih =>
    intro i9 h1 h2 f9 H locs ls hI hP hD hS hl
    rcases Nat.lt_or_ge i9 110 with hlt | hge
    · refine lv_iload_n hx hb dX12_keepsAll_2 rfl (lv_at hl 0 rfl) ?_
      refine lv_bipush (v := 110) hx hb dX12_keepsAll_3 (by decide) ?_
      refine lv_icmp_ge (tgt := 30) hx hb dX12_keepsAll_5 (by decide) (fun h => absurd h (nI_ge hlt (by decide))) (fun _ => ?_)
      refine lv_aload_n hx hb dX12_keepsAll_8 rfl (lv_at hl 1 rfl) ?_
      refine va_get (D := D) (ci := 11) (v := .ref (ma 1)) (C := RX12) (T := TX12) (N := 36) hx hb hts im_keepsAll_X12 hown hK hP 0 rfl rfl 0 (by decide) (hts (.fieldLink RX12 7 "SaltStreetModel" "at" "[I") (List.mem_of_getElem? (i := 1) rfl)) (fun _ h9 => h9) rfl dX12_keepsAll_9 ?_
      refine lv_sipush (v := 2400) hx hb dX12_keepsAll_12 (by decide) ?_
      refine lv_iload_n hx hb dX12_keepsAll_15 rfl (lv_at hl 0 rfl) ?_
      refine lv_iadd hx hb dX12_keepsAll_16 ?_
      refine lv_ci (y := (nI (2400 + i9))) (nI_add _ _) ?_
      refine lv_aload_n hx hb dX12_keepsAll_17 rfl (lv_at hl 1 rfl) ?_
      refine va_get (D := D) (ci := 11) (v := .ref (ma 1)) (C := RX12) (T := TX12) (N := 36) hx hb hts im_keepsAll_X12 hown hK hP 0 rfl rfl 0 (by decide) (hts (.fieldLink RX12 7 "SaltStreetModel" "at" "[I") (List.mem_of_getElem? (i := 1) rfl)) (fun _ h9 => h9) rfl dX12_keepsAll_18 ?_
      refine lv_iload_n hx hb dX12_keepsAll_21 rfl (lv_at hl 0 rfl) ?_
      refine va_iald hx hb hK hP 1 0 (f := f9) rfl rfl (vp_in_nI (by omega) (by decide)) dX12_keepsAll_22 ?_
      refine va_iast hx hb hK hP hD hS 1 0 (f := f9) rfl rfl (vp_in_nI (by omega) (by decide)) dX12_keepsAll_23 (fun H locs hP hD hS => ?_)
      have hP : va_P D vwCl [(ma 0, .inr (11, [.ref (ma 1), .ref (ma 2), .int 0, .long 0, .long 1, .ref (ma 3), .ref (ma 4), .ref (ma 5), .ref (ma 6), .ref (ma 7), .int 0, .int 0, .int 0, .int 0, .int 0, .int 0, .int (-1), .int (-1), .int 0, .int 0, .int 0, .ref (ma 8), .int 0, .int 0, .int (-1), .int 0, .int 0, .int 0, .ref (ma 9), .int 0, .int 0, .ref (ma 10), .ref (ma 11), .ref (ma 12), .int 0, .int 0])), (ma 1, .inl (kc 0, 2880, .inl (upd f9 ((nI (2400 + i9)) : Int32).toNatClampNeg (f9 ((nI i9) : Int32).toNatClampNeg))))] H := hP
      have hD : va_D A [(ma 0, .inr (11, [.ref (ma 1), .ref (ma 2), .int 0, .long 0, .long 1, .ref (ma 3), .ref (ma 4), .ref (ma 5), .ref (ma 6), .ref (ma 7), .int 0, .int 0, .int 0, .int 0, .int 0, .int 0, .int (-1), .int (-1), .int 0, .int 0, .int 0, .ref (ma 8), .int 0, .int 0, .int (-1), .int 0, .int 0, .int 0, .ref (ma 9), .int 0, .int 0, .ref (ma 10), .ref (ma 11), .ref (ma 12), .int 0, .int 0])), (ma 1, .inl (kc 0, 2880, .inl (upd f9 ((nI (2400 + i9)) : Int32).toNatClampNeg (f9 ((nI i9) : Int32).toNatClampNeg))))] := hD
      refine lv_iinc (v := (nI (i9 + 1))) (lv' := [(1, .int (nI (i9 + 1))), (0, .ref (ma 0))]) hx hb dX12_keepsAll_24 hl (k := 0) rfl (nI_1 _) (by decide) rfl (fun ls hl => ?_)
      refine lv_goto (tgt := 2) hx hb dX12_keepsAll_27 (by decide) ?_
      exact ih (i9 + 1) (by omega) (by omega) (upd f9 ((nI (2400 + i9)) : Int32).toNatClampNeg (f9 ((nI i9) : Int32).toNatClampNeg)) H locs ls (kp_inv hI (by omega)) hP hD hS (lv_sub hl [0, 1] rfl)
    · obtain rfl : i9 = 110 := by omega
      refine lv_iload_n hx hb dX12_keepsAll_2 rfl (lv_at hl 0 rfl) ?_
      refine lv_bipush (v := 110) hx hb dX12_keepsAll_3 (by decide) ?_
      refine lv_icmp_ge (tgt := 30) hx hb dX12_keepsAll_5 (by decide) (fun _ => ?_) (fun h => absurd (Int32.le_refl _) h)
      exact kk f9 H locs ls hI hP hD hS (lv_sub hl [0, 1] rfl)
set_option maxHeartbeats 4000000 in
set_option maxRecDepth 100000 in
theorem m_keepsAll (l : Launch) (D : va_G) (kc : Nat → ClassId) (sz : Nat) (ma : Nat → Nat) : Met l yX12_keepsAll vm_keepsAll ({ frames := 0, cells := 0, slots := 0, locals := 0 }) (va_Pc [.ref (ma 0)] (wPre D kc [(ma 0, .inr (11, [.ref (ma 1), .ref (ma 2), .int 0, .long 0, .long 1, .ref (ma 3), .ref (ma 4), .ref (ma 5), .ref (ma 6), .ref (ma 7), .int 0, .int 0, .int 0, .int 0, .int 0, .int 0, .int (-1), .int (-1), .int 0, .int 0, .int 0, .ref (ma 8), .int 0, .int 0, .int (-1), .int 0, .int 0, .int 0, .ref (ma 9), .int 0, .int 0, .ref (ma 10), .ref (ma 11), .ref (ma 12), .int 0, .int 0])), (ma 1, .inl (kc 0, 2880, .inl at0))] sz)) (va_Qv (fun (_ : Unit) => True) (fun (_ : Unit) (t9 : State) => ∃ f : Nat → Int32, f 0 = 0 ∧ va_P D vwCl [(ma 0, .inr (11, [.ref (ma 1), .ref (ma 2), .int 0, .long 0, .long 1, .ref (ma 3), .ref (ma 4), .ref (ma 5), .ref (ma 6), .ref (ma 7), .int 0, .int 0, .int 0, .int 0, .int 0, .int 0, .int (-1), .int (-1), .int 0, .int 0, .int 0, .ref (ma 8), .int 0, .int 0, .int (-1), .int 0, .int 0, .int 0, .ref (ma 9), .int 0, .int 0, .ref (ma 10), .ref (ma 11), .ref (ma 12), .int 0, .int 0])), (ma 1, .inl (kc 0, 2880, .inl f))] t9.heap ∧ va_D (va_A [(ma 0, .inr (11, [.ref (ma 1), .ref (ma 2), .int 0, .long 0, .long 1, .ref (ma 3), .ref (ma 4), .ref (ma 5), .ref (ma 6), .ref (ma 7), .int 0, .int 0, .int 0, .int 0, .int 0, .int 0, .int (-1), .int (-1), .int 0, .int 0, .int 0, .ref (ma 8), .int 0, .int 0, .int (-1), .int 0, .int 0, .int 0, .ref (ma 9), .int 0, .int 0, .ref (ma 10), .ref (ma 11), .ref (ma 12), .int 0, .int 0])), (ma 1, .inl (kc 0, 2880, .inl at0))] sz) [(ma 0, .inr (11, [.ref (ma 1), .ref (ma 2), .int 0, .long 0, .long 1, .ref (ma 3), .ref (ma 4), .ref (ma 5), .ref (ma 6), .ref (ma 7), .int 0, .int 0, .int 0, .int 0, .int 0, .int 0, .int (-1), .int (-1), .int 0, .int 0, .int 0, .ref (ma 8), .int 0, .int 0, .int (-1), .int 0, .int 0, .int 0, .ref (ma 9), .int 0, .int 0, .ref (ma 10), .ref (ma 11), .ref (ma 12), .int 0, .int 0])), (ma 1, .inl (kc 0, 2880, .inl f))]) (va_A [(ma 0, .inr (11, [.ref (ma 1), .ref (ma 2), .int 0, .long 0, .long 1, .ref (ma 3), .ref (ma 4), .ref (ma 5), .ref (ma 6), .ref (ma 7), .int 0, .int 0, .int 0, .int 0, .int 0, .int 0, .int (-1), .int (-1), .int 0, .int 0, .int 0, .ref (ma 8), .int 0, .int 0, .int (-1), .int 0, .int 0, .int 0, .ref (ma 9), .int 0, .int 0, .ref (ma 10), .ref (ma 11), .ref (ma 12), .int 0, .int 0])), (ma 1, .inl (kc 0, 2880, .inl at0))] sz)) 0 0 (va_A [(ma 0, .inr (11, [.ref (ma 1), .ref (ma 2), .int 0, .long 0, .long 1, .ref (ma 3), .ref (ma 4), .ref (ma 5), .ref (ma 6), .ref (ma 7), .int 0, .int 0, .int 0, .int 0, .int 0, .int 0, .int (-1), .int (-1), .int 0, .int 0, .int 0, .ref (ma 8), .int 0, .int 0, .int (-1), .int 0, .int 0, .int 0, .ref (ma 9), .int 0, .int 0, .ref (ma 10), .ref (ma 11), .ref (ma 12), .int 0, .int 0])), (ma 1, .inl (kc 0, 2880, .inl at0))] sz) := by
  refine Met.ofW (cc := cX12_keepsAll) (maxL := 2) (ret := none) (by decide) rfl ?_
  intro p e s m args below meth c s₁ B hml hv
  obtain ⟨rfl, hsz, hP, hE, hD0⟩ := hv
  have hx := B.exec
  have hb := B.bytes
  have hr := B.returns
  have hts := atoms_spec (ws := vm_keepsAll) B.pre
  have hown : s.vm.findClass RX12 = some m.cls := findClass_of_methodNamed B.named
  have hlocks := B.notSynchronized
  subst hsz
  have hD := hD0.self (sz := s.heap.size)
  generalize hAe : va_A [(ma 0, .inr (11, [.ref (ma 1), .ref (ma 2), .int 0, .long 0, .long 1, .ref (ma 3), .ref (ma 4), .ref (ma 5), .ref (ma 6), .ref (ma 7), .int 0, .int 0, .int 0, .int 0, .int 0, .int 0, .int (-1), .int (-1), .int 0, .int 0, .int 0, .ref (ma 8), .int 0, .int 0, .int (-1), .int 0, .int 0, .int 0, .ref (ma 9), .int 0, .int 0, .ref (ma 10), .ref (ma 11), .ref (ma 12), .int 0, .int 0])), (ma 1, .inl (kc 0, 2880, .inl at0))] s.heap.size = A at hD ⊢
  have hA : ∀ q : Nat, s.heap.size ≤ q → A q := fun q h => by rw [← hAe]; exact Or.inr h
  have hS : va_S A s.heap s.heap [] := va_S.rf
  have hK := hE.1
  have hP : va_P D vwCl [(ma 0, .inr (11, [.ref (ma 1), .ref (ma 2), .int 0, .long 0, .long 1, .ref (ma 3), .ref (ma 4), .ref (ma 5), .ref (ma 6), .ref (ma 7), .int 0, .int 0, .int 0, .int 0, .int 0, .int 0, .int (-1), .int (-1), .int 0, .int 0, .int 0, .ref (ma 8), .int 0, .int 0, .int (-1), .int 0, .int 0, .int 0, .ref (ma 9), .int 0, .int 0, .ref (ma 10), .ref (ma 11), .ref (ma 12), .int 0, .int 0])), (ma 1, .inl (kc 0, 2880, .inl at0))] s.heap := hP
  have hl := lv_entry ([.ref (ma 0)]) (n := 2) (Nat.le_of_ble_eq_true rfl)
  rw [lg_entry_eq]
  generalize (lg_sl ([.ref (ma 0)]) ++ List.replicate (2 - (lg_sl ([.ref (ma 0)])).length) Slot.unset).toArray = ls at hl ⊢
  have hl : lv_has ls 2 [(0, .ref (ma 0))] := hl
  refine lv_iconst (v := 0) hx hb dX12_keepsAll_0 (by decide) ?_
  refine lv_istore_n (lv' := [(1, .int 0), (0, .ref (ma 0))]) hx hb dX12_keepsAll_1 rfl hl (by decide) rfl (fun ls hl => ?_)
  refine lp_keep_10 ma hx hb hml hown hts hE (fun f9_2 H locs ls hI2 hP hD hS hl => ?_) (110 + 1) 0 (Nat.zero_le _) (by omega) at0 _ _ ls (by decide) hP hD hS (lv_sub hl [0, 1] rfl)
  have hP9 := hP.sub (ws' := [(ma 0, .inr (11, [.ref (ma 1), .ref (ma 2), .int 0, .long 0, .long 1, .ref (ma 3), .ref (ma 4), .ref (ma 5), .ref (ma 6), .ref (ma 7), .int 0, .int 0, .int 0, .int 0, .int 0, .int 0, .int (-1), .int (-1), .int 0, .int 0, .int 0, .ref (ma 8), .int 0, .int 0, .int (-1), .int 0, .int 0, .int 0, .ref (ma 9), .int 0, .int 0, .ref (ma 10), .ref (ma 11), .ref (ma 12), .int 0, .int 0])), (ma 1, .inl (kc 0, 2880, .inl f9_2))]) [0, 1] rfl
  have hD9 := hD.sub (ws' := [(ma 0, .inr (11, [.ref (ma 1), .ref (ma 2), .int 0, .long 0, .long 1, .ref (ma 3), .ref (ma 4), .ref (ma 5), .ref (ma 6), .ref (ma 7), .int 0, .int 0, .int 0, .int 0, .int 0, .int 0, .int (-1), .int (-1), .int 0, .int 0, .int 0, .ref (ma 8), .int 0, .int 0, .int (-1), .int 0, .int 0, .int 0, .ref (ma 9), .int 0, .int 0, .ref (ma 10), .ref (ma 11), .ref (ma 12), .int 0, .int 0])), (ma 1, .inl (kc 0, 2880, .inl f9_2))]) [0, 1] (by decide) rfl
  exact W.vret hx hb hr (fun t9 ht hW => ⟨⟨(), rfl, trivial, f9_2, hI2, by rw [ht]; exact hP9, hD9⟩, hS.F ht⟩) hS.2.2 dX12_keepsAll_30
theorem dX12_takesBack_0 : decode cX12_takesBack 0 = .ok (.iconst 0, 1) := by decide +kernel
theorem dX12_takesBack_1 : decode cX12_takesBack 1 = .ok (.istore_n 1, 1) := by decide +kernel
theorem dX12_takesBack_2 : decode cX12_takesBack 2 = .ok (.iload_n 1, 1) := by decide +kernel
theorem dX12_takesBack_3 : decode cX12_takesBack 3 = .ok (.bipush 110, 2) := by decide +kernel
theorem dX12_takesBack_5 : decode cX12_takesBack 5 = .ok (.if_icmp .ge 25, 3) := by decide +kernel
theorem dX12_takesBack_8 : decode cX12_takesBack 8 = .ok (.aload_n 0, 1) := by decide +kernel
theorem dX12_takesBack_9 : decode cX12_takesBack 9 = .ok (.getfield 7, 3) := by decide +kernel
theorem dX12_takesBack_12 : decode cX12_takesBack 12 = .ok (.iload_n 1, 1) := by decide +kernel
theorem dX12_takesBack_13 : decode cX12_takesBack 13 = .ok (.aload_n 0, 1) := by decide +kernel
theorem dX12_takesBack_14 : decode cX12_takesBack 14 = .ok (.getfield 7, 3) := by decide +kernel
theorem dX12_takesBack_17 : decode cX12_takesBack 17 = .ok (.sipush 2400, 3) := by decide +kernel
theorem dX12_takesBack_20 : decode cX12_takesBack 20 = .ok (.iload_n 1, 1) := by decide +kernel
theorem dX12_takesBack_21 : decode cX12_takesBack 21 = .ok (.iadd, 1) := by decide +kernel
theorem dX12_takesBack_22 : decode cX12_takesBack 22 = .ok (.iaload, 1) := by decide +kernel
theorem dX12_takesBack_23 : decode cX12_takesBack 23 = .ok (.iastore, 1) := by decide +kernel
theorem dX12_takesBack_24 : decode cX12_takesBack 24 = .ok (.iinc 1 1, 3) := by decide +kernel
theorem dX12_takesBack_27 : decode cX12_takesBack 27 = .ok (.goto (-25), 3) := by decide +kernel
theorem dX12_takesBack_30 : decode cX12_takesBack 30 = .ok (.return_, 1) := by decide +kernel
def vdm_takesBack : List Cond := [.code yX12_takesBack cX12_takesBack 2 none, .fieldLink RX12 7 "SaltStreetModel" "at" "[I"]
def vm_takesBack : List Cond := vdm_takesBack ++ (wsX120 ++ ([] : List Cond))
theorem im_takesBack_X12 : ∀ w ∈ wsX120, w ∈ vm_takesBack := fun _ h => List.mem_append_right _ (List.mem_append_left _ h)
set_option maxHeartbeats 4000000 in
set_option maxRecDepth 100000 in
theorem lp_back_11 {p : Program} {l : Launch} {e : Env} {R : Room} {s : State} {m : MethodId} {args : Array Value} {below : List Frame} {meth : Method} {c : Code} {cells slots : Nat} {Q : State → Prop} {A : Nat → Prop} {D : va_G} {kc : Nat → ClassId} (ma : Nat → Nat) (hx : p.tables.exec = Jvm.exec) (hb : c.code = cX12_takesBack) (hml : c.maxLocals = 2) (hown : s.vm.findClass RX12 = some m.cls) (hts : ∀ w ∈ vm_takesBack, w.before args s = true) (hE : EK D kc s) (kk : ∀ (f9 : Nat → Int32) (H : Heap) (locs : List Loc) (ls : Array Slot), True → va_P D vwCl [(ma 0, .inr (11, [.ref (ma 1), .ref (ma 2), .int 0, .long 0, .long 1, .ref (ma 3), .ref (ma 4), .ref (ma 5), .ref (ma 6), .ref (ma 7), .int 0, .int 0, .int 0, .int 0, .int 0, .int 0, .int (-1), .int (-1), .int 0, .int 0, .int 0, .ref (ma 8), .int 0, .int 0, .int (-1), .int 0, .int 0, .int 0, .ref (ma 9), .int 0, .int 0, .ref (ma 10), .ref (ma 11), .ref (ma 12), .int 0, .int 0])), (ma 1, .inl (kc 0, 2880, .inl f9))] H → va_D A [(ma 0, .inr (11, [.ref (ma 1), .ref (ma 2), .int 0, .long 0, .long 1, .ref (ma 3), .ref (ma 4), .ref (ma 5), .ref (ma 6), .ref (ma 7), .int 0, .int 0, .int 0, .int 0, .int 0, .int 0, .int (-1), .int (-1), .int 0, .int 0, .int 0, .ref (ma 8), .int 0, .int 0, .int (-1), .int 0, .int 0, .int 0, .ref (ma 9), .int 0, .int 0, .ref (ma 10), .ref (ma 11), .ref (ma 12), .int 0, .int 0])), (ma 1, .inl (kc 0, 2880, .inl f9))] → va_S A s.heap H locs → lv_has ls 2 [(1, .int (nI 110)), (0, .ref (ma 0))] → W p l e R s m args below meth c H locs cells slots Q (F0 m 30 ls [])) : ∀ (n9 i9 : Nat), i9 ≤ 110 → 110 < i9 + n9 → ∀ (f9 : Nat → Int32) (H : Heap) (locs : List Loc) (ls : Array Slot), True → va_P D vwCl [(ma 0, .inr (11, [.ref (ma 1), .ref (ma 2), .int 0, .long 0, .long 1, .ref (ma 3), .ref (ma 4), .ref (ma 5), .ref (ma 6), .ref (ma 7), .int 0, .int 0, .int 0, .int 0, .int 0, .int 0, .int (-1), .int (-1), .int 0, .int 0, .int 0, .ref (ma 8), .int 0, .int 0, .int (-1), .int 0, .int 0, .int 0, .ref (ma 9), .int 0, .int 0, .ref (ma 10), .ref (ma 11), .ref (ma 12), .int 0, .int 0])), (ma 1, .inl (kc 0, 2880, .inl f9))] H → va_D A [(ma 0, .inr (11, [.ref (ma 1), .ref (ma 2), .int 0, .long 0, .long 1, .ref (ma 3), .ref (ma 4), .ref (ma 5), .ref (ma 6), .ref (ma 7), .int 0, .int 0, .int 0, .int 0, .int 0, .int 0, .int (-1), .int (-1), .int 0, .int 0, .int 0, .ref (ma 8), .int 0, .int 0, .int (-1), .int 0, .int 0, .int 0, .ref (ma 9), .int 0, .int 0, .ref (ma 10), .ref (ma 11), .ref (ma 12), .int 0, .int 0])), (ma 1, .inl (kc 0, 2880, .inl f9))] → va_S A s.heap H locs → lv_has ls 2 [(1, .int (nI i9)), (0, .ref (ma 0))] → W p l e R s m args below meth c H locs cells slots Q (F0 m 2 ls []) := by
  have hK := hE.1
  intro n9
  induction n9 with
  | zero => intro i9 h1 h2; exact absurd h2 (by omega)
  | succ n9 ih =>
    intro i9 h1 h2 f9 H locs ls hI hP hD hS hl
    rcases Nat.lt_or_ge i9 110 with hlt | hge
    · refine lv_iload_n hx hb dX12_takesBack_2 rfl (lv_at hl 0 rfl) ?_
      refine lv_bipush (v := 110) hx hb dX12_takesBack_3 (by decide) ?_
      refine lv_icmp_ge (tgt := 30) hx hb dX12_takesBack_5 (by decide) (fun h => absurd h (nI_ge hlt (by decide))) (fun _ => ?_)
      refine lv_aload_n hx hb dX12_takesBack_8 rfl (lv_at hl 1 rfl) ?_
      refine va_get (D := D) (ci := 11) (v := .ref (ma 1)) (C := RX12) (T := TX12) (N := 36) hx hb hts im_takesBack_X12 hown hK hP 0 rfl rfl 0 (by decide) (hts (.fieldLink RX12 7 "SaltStreetModel" "at" "[I") (List.mem_of_getElem? (i := 1) rfl)) (fun _ h9 => h9) rfl dX12_takesBack_9 ?_
      refine lv_iload_n hx hb dX12_takesBack_12 rfl (lv_at hl 0 rfl) ?_
      refine lv_aload_n hx hb dX12_takesBack_13 rfl (lv_at hl 1 rfl) ?_
      refine va_get (D := D) (ci := 11) (v := .ref (ma 1)) (C := RX12) (T := TX12) (N := 36) hx hb hts im_takesBack_X12 hown hK hP 0 rfl rfl 0 (by decide) (hts (.fieldLink RX12 7 "SaltStreetModel" "at" "[I") (List.mem_of_getElem? (i := 1) rfl)) (fun _ h9 => h9) rfl dX12_takesBack_14 ?_
      refine lv_sipush (v := 2400) hx hb dX12_takesBack_17 (by decide) ?_
      refine lv_iload_n hx hb dX12_takesBack_20 rfl (lv_at hl 0 rfl) ?_
      refine lv_iadd hx hb dX12_takesBack_21 ?_
      refine lv_ci (y := (nI (2400 + i9))) (nI_add _ _) ?_
      refine va_iald hx hb hK hP 1 0 (f := f9) rfl rfl (vp_in_nI (by omega) (by decide)) dX12_takesBack_22 ?_
      refine va_iast hx hb hK hP hD hS 1 0 (f := f9) rfl rfl (vp_in_nI (by omega) (by decide)) dX12_takesBack_23 (fun H locs hP hD hS => ?_)
      have hP : va_P D vwCl [(ma 0, .inr (11, [.ref (ma 1), .ref (ma 2), .int 0, .long 0, .long 1, .ref (ma 3), .ref (ma 4), .ref (ma 5), .ref (ma 6), .ref (ma 7), .int 0, .int 0, .int 0, .int 0, .int 0, .int 0, .int (-1), .int (-1), .int 0, .int 0, .int 0, .ref (ma 8), .int 0, .int 0, .int (-1), .int 0, .int 0, .int 0, .ref (ma 9), .int 0, .int 0, .ref (ma 10), .ref (ma 11), .ref (ma 12), .int 0, .int 0])), (ma 1, .inl (kc 0, 2880, .inl (upd f9 ((nI i9) : Int32).toNatClampNeg (f9 ((nI (2400 + i9)) : Int32).toNatClampNeg))))] H := hP
      have hD : va_D A [(ma 0, .inr (11, [.ref (ma 1), .ref (ma 2), .int 0, .long 0, .long 1, .ref (ma 3), .ref (ma 4), .ref (ma 5), .ref (ma 6), .ref (ma 7), .int 0, .int 0, .int 0, .int 0, .int 0, .int 0, .int (-1), .int (-1), .int 0, .int 0, .int 0, .ref (ma 8), .int 0, .int 0, .int (-1), .int 0, .int 0, .int 0, .ref (ma 9), .int 0, .int 0, .ref (ma 10), .ref (ma 11), .ref (ma 12), .int 0, .int 0])), (ma 1, .inl (kc 0, 2880, .inl (upd f9 ((nI i9) : Int32).toNatClampNeg (f9 ((nI (2400 + i9)) : Int32).toNatClampNeg))))] := hD
      refine lv_iinc (v := (nI (i9 + 1))) (lv' := [(1, .int (nI (i9 + 1))), (0, .ref (ma 0))]) hx hb dX12_takesBack_24 hl (k := 0) rfl (nI_1 _) (by decide) rfl (fun ls hl => ?_)
      refine lv_goto (tgt := 2) hx hb dX12_takesBack_27 (by decide) ?_
      exact ih (i9 + 1) (by omega) (by omega) (upd f9 ((nI i9) : Int32).toNatClampNeg (f9 ((nI (2400 + i9)) : Int32).toNatClampNeg)) H locs ls (trivial) hP hD hS (lv_sub hl [0, 1] rfl)
    · obtain rfl : i9 = 110 := by omega
      refine lv_iload_n hx hb dX12_takesBack_2 rfl (lv_at hl 0 rfl) ?_
      refine lv_bipush (v := 110) hx hb dX12_takesBack_3 (by decide) ?_
      refine lv_icmp_ge (tgt := 30) hx hb dX12_takesBack_5 (by decide) (fun _ => ?_) (fun h => absurd (Int32.le_refl _) h)
      exact kk f9 H locs ls hI hP hD hS (lv_sub hl [0, 1] rfl)
set_option maxHeartbeats 4000000 in
set_option maxRecDepth 100000 in
theorem m_takesBack (l : Launch) (D : va_G) (kc : Nat → ClassId) (sz : Nat) (ma : Nat → Nat) (f : Nat → Int32) : Met l yX12_takesBack vm_takesBack ({ frames := 0, cells := 0, slots := 0, locals := 0 }) (va_Pc [.ref (ma 0)] (wPre D kc [(ma 0, .inr (11, [.ref (ma 1), .ref (ma 2), .int 0, .long 0, .long 1, .ref (ma 3), .ref (ma 4), .ref (ma 5), .ref (ma 6), .ref (ma 7), .int 0, .int 0, .int 0, .int 0, .int 0, .int 0, .int (-1), .int (-1), .int 0, .int 0, .int 0, .ref (ma 8), .int 0, .int 0, .int (-1), .int 0, .int 0, .int 0, .ref (ma 9), .int 0, .int 0, .ref (ma 10), .ref (ma 11), .ref (ma 12), .int 0, .int 0])), (ma 1, .inl (kc 0, 2880, .inl f))] sz)) (va_Qv (fun (_ : Unit) => True) (wPost D [(ma 0, .inr (11, [.ref (ma 1), .ref (ma 2), .int 0, .long 0, .long 1, .ref (ma 3), .ref (ma 4), .ref (ma 5), .ref (ma 6), .ref (ma 7), .int 0, .int 0, .int 0, .int 0, .int 0, .int 0, .int (-1), .int (-1), .int 0, .int 0, .int 0, .ref (ma 8), .int 0, .int 0, .int (-1), .int 0, .int 0, .int 0, .ref (ma 9), .int 0, .int 0, .ref (ma 10), .ref (ma 11), .ref (ma 12), .int 0, .int 0]))] (va_A [(ma 0, .inr (11, [.ref (ma 1), .ref (ma 2), .int 0, .long 0, .long 1, .ref (ma 3), .ref (ma 4), .ref (ma 5), .ref (ma 6), .ref (ma 7), .int 0, .int 0, .int 0, .int 0, .int 0, .int 0, .int (-1), .int (-1), .int 0, .int 0, .int 0, .ref (ma 8), .int 0, .int 0, .int (-1), .int 0, .int 0, .int 0, .ref (ma 9), .int 0, .int 0, .ref (ma 10), .ref (ma 11), .ref (ma 12), .int 0, .int 0])), (ma 1, .inl (kc 0, 2880, .inl f))] sz)) (va_A [(ma 0, .inr (11, [.ref (ma 1), .ref (ma 2), .int 0, .long 0, .long 1, .ref (ma 3), .ref (ma 4), .ref (ma 5), .ref (ma 6), .ref (ma 7), .int 0, .int 0, .int 0, .int 0, .int 0, .int 0, .int (-1), .int (-1), .int 0, .int 0, .int 0, .ref (ma 8), .int 0, .int 0, .int (-1), .int 0, .int 0, .int 0, .ref (ma 9), .int 0, .int 0, .ref (ma 10), .ref (ma 11), .ref (ma 12), .int 0, .int 0])), (ma 1, .inl (kc 0, 2880, .inl f))] sz)) 0 0 (va_A [(ma 0, .inr (11, [.ref (ma 1), .ref (ma 2), .int 0, .long 0, .long 1, .ref (ma 3), .ref (ma 4), .ref (ma 5), .ref (ma 6), .ref (ma 7), .int 0, .int 0, .int 0, .int 0, .int 0, .int 0, .int (-1), .int (-1), .int 0, .int 0, .int 0, .ref (ma 8), .int 0, .int 0, .int (-1), .int 0, .int 0, .int 0, .ref (ma 9), .int 0, .int 0, .ref (ma 10), .ref (ma 11), .ref (ma 12), .int 0, .int 0])), (ma 1, .inl (kc 0, 2880, .inl f))] sz) := by
  refine Met.ofW (cc := cX12_takesBack) (maxL := 2) (ret := none) (by decide) rfl ?_
  intro p e s m args below meth c s₁ B hml hv
  obtain ⟨rfl, hsz, hP, hE, hD0⟩ := hv
  have hx := B.exec
  have hb := B.bytes
  have hr := B.returns
  have hts := atoms_spec (ws := vm_takesBack) B.pre
  have hown : s.vm.findClass RX12 = some m.cls := findClass_of_methodNamed B.named
  have hlocks := B.notSynchronized
  subst hsz
  have hD := hD0.self (sz := s.heap.size)
  generalize hAe : va_A [(ma 0, .inr (11, [.ref (ma 1), .ref (ma 2), .int 0, .long 0, .long 1, .ref (ma 3), .ref (ma 4), .ref (ma 5), .ref (ma 6), .ref (ma 7), .int 0, .int 0, .int 0, .int 0, .int 0, .int 0, .int (-1), .int (-1), .int 0, .int 0, .int 0, .ref (ma 8), .int 0, .int 0, .int (-1), .int 0, .int 0, .int 0, .ref (ma 9), .int 0, .int 0, .ref (ma 10), .ref (ma 11), .ref (ma 12), .int 0, .int 0])), (ma 1, .inl (kc 0, 2880, .inl f))] s.heap.size = A at hD ⊢
  have hA : ∀ q : Nat, s.heap.size ≤ q → A q := fun q h => by rw [← hAe]; exact Or.inr h
  have hS : va_S A s.heap s.heap [] := va_S.rf
  have hK := hE.1
  have hP : va_P D vwCl [(ma 0, .inr (11, [.ref (ma 1), .ref (ma 2), .int 0, .long 0, .long 1, .ref (ma 3), .ref (ma 4), .ref (ma 5), .ref (ma 6), .ref (ma 7), .int 0, .int 0, .int 0, .int 0, .int 0, .int 0, .int (-1), .int (-1), .int 0, .int 0, .int 0, .ref (ma 8), .int 0, .int 0, .int (-1), .int 0, .int 0, .int 0, .ref (ma 9), .int 0, .int 0, .ref (ma 10), .ref (ma 11), .ref (ma 12), .int 0, .int 0])), (ma 1, .inl (kc 0, 2880, .inl f))] s.heap := hP
  have hl := lv_entry ([.ref (ma 0)]) (n := 2) (Nat.le_of_ble_eq_true rfl)
  rw [lg_entry_eq]
  generalize (lg_sl ([.ref (ma 0)]) ++ List.replicate (2 - (lg_sl ([.ref (ma 0)])).length) Slot.unset).toArray = ls at hl ⊢
  have hl : lv_has ls 2 [(0, .ref (ma 0))] := hl
  refine lv_iconst (v := 0) hx hb dX12_takesBack_0 (by decide) ?_
  refine lv_istore_n (lv' := [(1, .int 0), (0, .ref (ma 0))]) hx hb dX12_takesBack_1 rfl hl (by decide) rfl (fun ls hl => ?_)
  refine lp_back_11 ma hx hb hml hown hts hE (fun f9_2 H locs ls hI2 hP hD hS hl => ?_) (110 + 1) 0 (Nat.zero_le _) (by omega) f _ _ ls (trivial) hP hD hS (lv_sub hl [0, 1] rfl)
  have hP9 := hP.sub (ws' := [(ma 0, .inr (11, [.ref (ma 1), .ref (ma 2), .int 0, .long 0, .long 1, .ref (ma 3), .ref (ma 4), .ref (ma 5), .ref (ma 6), .ref (ma 7), .int 0, .int 0, .int 0, .int 0, .int 0, .int 0, .int (-1), .int (-1), .int 0, .int 0, .int 0, .ref (ma 8), .int 0, .int 0, .int (-1), .int 0, .int 0, .int 0, .ref (ma 9), .int 0, .int 0, .ref (ma 10), .ref (ma 11), .ref (ma 12), .int 0, .int 0]))]) [0] rfl
  have hD9 := hD.sub (ws' := [(ma 0, .inr (11, [.ref (ma 1), .ref (ma 2), .int 0, .long 0, .long 1, .ref (ma 3), .ref (ma 4), .ref (ma 5), .ref (ma 6), .ref (ma 7), .int 0, .int 0, .int 0, .int 0, .int 0, .int 0, .int (-1), .int (-1), .int 0, .int 0, .int 0, .ref (ma 8), .int 0, .int 0, .int (-1), .int 0, .int 0, .int 0, .ref (ma 9), .int 0, .int 0, .ref (ma 10), .ref (ma 11), .ref (ma 12), .int 0, .int 0]))]) [0] (by decide) rfl
  exact W.vret hx hb hr (fun t9 ht hW => ⟨⟨(), rfl, trivial, ⟨by rw [ht]; exact hP9, hD9⟩⟩, hS.F ht⟩) hS.2.2 dX12_takesBack_30
theorem dX12_isSnow_0 : decode cX12_isSnow 0 = .ok (.iconst 0, 1) := by decide +kernel
theorem dX12_isSnow_1 : decode cX12_isSnow 1 = .ok (.istore_n 1, 1) := by decide +kernel
theorem dX12_isSnow_2 : decode cX12_isSnow 2 = .ok (.iload_n 1, 1) := by decide +kernel
theorem dX12_isSnow_3 : decode cX12_isSnow 3 = .ok (.aload_n 0, 1) := by decide +kernel
theorem dX12_isSnow_4 : decode cX12_isSnow 4 = .ok (.getfield 7, 3) := by decide +kernel
theorem dX12_isSnow_7 : decode cX12_isSnow 7 = .ok (.iconst 0, 1) := by decide +kernel
theorem dX12_isSnow_8 : decode cX12_isSnow 8 = .ok (.iaload, 1) := by decide +kernel
theorem dX12_isSnow_9 : decode cX12_isSnow 9 = .ok (.if_icmp .ge 25, 3) := by decide +kernel
theorem dX12_isSnow_34 : decode cX12_isSnow 34 = .ok (.iconst 0, 1) := by decide +kernel
theorem dX12_isSnow_35 : decode cX12_isSnow 35 = .ok (.ireturn, 1) := by decide +kernel
def vdm_isSnow : List Cond := [.code yX12_isSnow cX12_isSnow 2 (some .boolean), .fieldLink RX12 7 "SaltStreetModel" "at" "[I"]
def vm_isSnow : List Cond := vdm_isSnow ++ (wsX120 ++ ([] : List Cond))
theorem im_isSnow_X12 : ∀ w ∈ wsX120, w ∈ vm_isSnow := fun _ h => List.mem_append_right _ (List.mem_append_left _ h)
set_option maxHeartbeats 4000000 in
set_option maxRecDepth 100000 in
theorem m_isSnow (l : Launch) (D : va_G) (kc : Nat → ClassId) (sz : Nat) (ma : Nat → Nat) (f : Nat → Int32) (hf : f 0 = 0) : Met l yX12_isSnow vm_isSnow ({ frames := 0, cells := 0, slots := 0, locals := 0 }) (va_Pc [.ref (ma 0)] (wPre D kc [(ma 0, .inr (11, [.ref (ma 1), .ref (ma 2), .int 0, .long 0, .long 1, .ref (ma 3), .ref (ma 4), .ref (ma 5), .ref (ma 6), .ref (ma 7), .int 0, .int 0, .int 0, .int 0, .int 0, .int 0, .int (-1), .int (-1), .int 0, .int 0, .int 0, .ref (ma 8), .int 0, .int 0, .int (-1), .int 0, .int 0, .int 0, .ref (ma 9), .int 0, .int 0, .ref (ma 10), .ref (ma 11), .ref (ma 12), .int 0, .int 0])), (ma 1, .inl (kc 0, 2880, .inl f))] sz)) (va_Qi (fun (r : Int32) (_ : Unit) => r = 0) (wPost D [(ma 0, .inr (11, [.ref (ma 1), .ref (ma 2), .int 0, .long 0, .long 1, .ref (ma 3), .ref (ma 4), .ref (ma 5), .ref (ma 6), .ref (ma 7), .int 0, .int 0, .int 0, .int 0, .int 0, .int 0, .int (-1), .int (-1), .int 0, .int 0, .int 0, .ref (ma 8), .int 0, .int 0, .int (-1), .int 0, .int 0, .int 0, .ref (ma 9), .int 0, .int 0, .ref (ma 10), .ref (ma 11), .ref (ma 12), .int 0, .int 0])), (ma 1, .inl (kc 0, 2880, .inl f))] (va_A [(ma 0, .inr (11, [.ref (ma 1), .ref (ma 2), .int 0, .long 0, .long 1, .ref (ma 3), .ref (ma 4), .ref (ma 5), .ref (ma 6), .ref (ma 7), .int 0, .int 0, .int 0, .int 0, .int 0, .int 0, .int (-1), .int (-1), .int 0, .int 0, .int 0, .ref (ma 8), .int 0, .int 0, .int (-1), .int 0, .int 0, .int 0, .ref (ma 9), .int 0, .int 0, .ref (ma 10), .ref (ma 11), .ref (ma 12), .int 0, .int 0])), (ma 1, .inl (kc 0, 2880, .inl f))] sz)) (va_A [(ma 0, .inr (11, [.ref (ma 1), .ref (ma 2), .int 0, .long 0, .long 1, .ref (ma 3), .ref (ma 4), .ref (ma 5), .ref (ma 6), .ref (ma 7), .int 0, .int 0, .int 0, .int 0, .int 0, .int 0, .int (-1), .int (-1), .int 0, .int 0, .int 0, .ref (ma 8), .int 0, .int 0, .int (-1), .int 0, .int 0, .int 0, .ref (ma 9), .int 0, .int 0, .ref (ma 10), .ref (ma 11), .ref (ma 12), .int 0, .int 0])), (ma 1, .inl (kc 0, 2880, .inl f))] sz)) 0 0 (va_A [(ma 0, .inr (11, [.ref (ma 1), .ref (ma 2), .int 0, .long 0, .long 1, .ref (ma 3), .ref (ma 4), .ref (ma 5), .ref (ma 6), .ref (ma 7), .int 0, .int 0, .int 0, .int 0, .int 0, .int 0, .int (-1), .int (-1), .int 0, .int 0, .int 0, .ref (ma 8), .int 0, .int 0, .int (-1), .int 0, .int 0, .int 0, .ref (ma 9), .int 0, .int 0, .ref (ma 10), .ref (ma 11), .ref (ma 12), .int 0, .int 0])), (ma 1, .inl (kc 0, 2880, .inl f))] sz) := by
  refine Met.ofW (cc := cX12_isSnow) (maxL := 2) (ret := (some .boolean)) (by decide) rfl ?_
  intro p e s m args below meth c s₁ B hml hv
  obtain ⟨rfl, hsz, hP, hE, hD0⟩ := hv
  have hx := B.exec
  have hb := B.bytes
  have hr := B.returns
  have hts := atoms_spec (ws := vm_isSnow) B.pre
  have hown : s.vm.findClass RX12 = some m.cls := findClass_of_methodNamed B.named
  have hlocks := B.notSynchronized
  subst hsz
  have hD := hD0.self (sz := s.heap.size)
  generalize hAe : va_A [(ma 0, .inr (11, [.ref (ma 1), .ref (ma 2), .int 0, .long 0, .long 1, .ref (ma 3), .ref (ma 4), .ref (ma 5), .ref (ma 6), .ref (ma 7), .int 0, .int 0, .int 0, .int 0, .int 0, .int 0, .int (-1), .int (-1), .int 0, .int 0, .int 0, .ref (ma 8), .int 0, .int 0, .int (-1), .int 0, .int 0, .int 0, .ref (ma 9), .int 0, .int 0, .ref (ma 10), .ref (ma 11), .ref (ma 12), .int 0, .int 0])), (ma 1, .inl (kc 0, 2880, .inl f))] s.heap.size = A at hD ⊢
  have hA : ∀ q : Nat, s.heap.size ≤ q → A q := fun q h => by rw [← hAe]; exact Or.inr h
  have hS : va_S A s.heap s.heap [] := va_S.rf
  have hK := hE.1
  have hP : va_P D vwCl [(ma 0, .inr (11, [.ref (ma 1), .ref (ma 2), .int 0, .long 0, .long 1, .ref (ma 3), .ref (ma 4), .ref (ma 5), .ref (ma 6), .ref (ma 7), .int 0, .int 0, .int 0, .int 0, .int 0, .int 0, .int (-1), .int (-1), .int 0, .int 0, .int 0, .ref (ma 8), .int 0, .int 0, .int (-1), .int 0, .int 0, .int 0, .ref (ma 9), .int 0, .int 0, .ref (ma 10), .ref (ma 11), .ref (ma 12), .int 0, .int 0])), (ma 1, .inl (kc 0, 2880, .inl f))] s.heap := hP
  have hl := lv_entry ([.ref (ma 0)]) (n := 2) (Nat.le_of_ble_eq_true rfl)
  rw [lg_entry_eq]
  generalize (lg_sl ([.ref (ma 0)]) ++ List.replicate (2 - (lg_sl ([.ref (ma 0)])).length) Slot.unset).toArray = ls at hl ⊢
  have hl : lv_has ls 2 [(0, .ref (ma 0))] := hl
  refine lv_iconst (v := 0) hx hb dX12_isSnow_0 (by decide) ?_
  refine lv_istore_n (lv' := [(1, .int 0), (0, .ref (ma 0))]) hx hb dX12_isSnow_1 rfl hl (by decide) rfl (fun ls hl => ?_)
  refine lv_iload_n hx hb dX12_isSnow_2 rfl (lv_at hl 0 rfl) ?_
  refine lv_aload_n hx hb dX12_isSnow_3 rfl (lv_at hl 1 rfl) ?_
  refine va_get (D := D) (ci := 11) (v := .ref (ma 1)) (C := RX12) (T := TX12) (N := 36) hx hb hts im_isSnow_X12 hown hK hP 0 rfl rfl 0 (by decide) (hts (.fieldLink RX12 7 "SaltStreetModel" "at" "[I") (List.mem_of_getElem? (i := 1) rfl)) (fun _ h9 => h9) rfl dX12_isSnow_4 ?_
  refine lv_iconst (v := 0) hx hb dX12_isSnow_7 (by decide) ?_
  refine va_iald hx hb hK hP 1 0 (f := f) rfl rfl (by unfold vp_in; decide) dX12_isSnow_8 ?_
  refine lv_ci (y := 0) (hf) ?_
  refine lv_icmp_ge (tgt := 34) hx hb dX12_isSnow_9 (by decide) (fun _ => ?_) (fun h => absurd (by decide) h)
  refine lv_iconst (v := 0) hx hb dX12_isSnow_34 (by decide) ?_
  have hP9 := hP.sub (ws' := [(ma 0, .inr (11, [.ref (ma 1), .ref (ma 2), .int 0, .long 0, .long 1, .ref (ma 3), .ref (ma 4), .ref (ma 5), .ref (ma 6), .ref (ma 7), .int 0, .int 0, .int 0, .int 0, .int 0, .int 0, .int (-1), .int (-1), .int 0, .int 0, .int 0, .ref (ma 8), .int 0, .int 0, .int (-1), .int 0, .int 0, .int 0, .ref (ma 9), .int 0, .int 0, .ref (ma 10), .ref (ma 11), .ref (ma 12), .int 0, .int 0])), (ma 1, .inl (kc 0, 2880, .inl f))]) [0, 1] rfl
  have hD9 := hD.sub (ws' := [(ma 0, .inr (11, [.ref (ma 1), .ref (ma 2), .int 0, .long 0, .long 1, .ref (ma 3), .ref (ma 4), .ref (ma 5), .ref (ma 6), .ref (ma 7), .int 0, .int 0, .int 0, .int 0, .int 0, .int 0, .int (-1), .int (-1), .int 0, .int 0, .int 0, .ref (ma 8), .int 0, .int 0, .int (-1), .int 0, .int 0, .int 0, .ref (ma 9), .int 0, .int 0, .ref (ma 10), .ref (ma 11), .ref (ma 12), .int 0, .int 0])), (ma 1, .inl (kc 0, 2880, .inl f))]) [0, 1] (by decide) rfl
  exact W.zret (v := 0) hx hb hr rfl (fun t9 ht hW => ⟨⟨0, (), rfl, rfl, ⟨by rw [ht]; exact hP9, hD9⟩⟩, hS.F ht⟩) hS.2.2 dX12_isSnow_35
theorem dX12_thawAll_0 : decode cX12_thawAll 0 = .ok (.aload_n 0, 1) := by decide +kernel
theorem dX12_thawAll_1 : decode cX12_thawAll 1 = .ok (.invokevirtual 338, 3) := by decide +kernel
theorem dX12_thawAll_4 : decode cX12_thawAll 4 = .ok (.iconst 0, 1) := by decide +kernel
theorem dX12_thawAll_5 : decode cX12_thawAll 5 = .ok (.istore_n 1, 1) := by decide +kernel
theorem dX12_thawAll_6 : decode cX12_thawAll 6 = .ok (.iload_n 1, 1) := by decide +kernel
theorem dX12_thawAll_7 : decode cX12_thawAll 7 = .ok (.bipush 61, 2) := by decide +kernel
theorem dX12_thawAll_9 : decode cX12_thawAll 9 = .ok (.if_icmp .ge 20, 3) := by decide +kernel
theorem dX12_thawAll_12 : decode cX12_thawAll 12 = .ok (.aload_n 0, 1) := by decide +kernel
theorem dX12_thawAll_13 : decode cX12_thawAll 13 = .ok (.invokevirtual 350, 3) := by decide +kernel
theorem dX12_thawAll_16 : decode cX12_thawAll 16 = .ok (.ifCond .eq 13, 3) := by decide +kernel
theorem dX12_thawAll_29 : decode cX12_thawAll 29 = .ok (.aload_n 0, 1) := by decide +kernel
theorem dX12_thawAll_30 : decode cX12_thawAll 30 = .ok (.invokevirtual 341, 3) := by decide +kernel
theorem dX12_thawAll_33 : decode cX12_thawAll 33 = .ok (.iload_n 1, 1) := by decide +kernel
theorem dX12_thawAll_34 : decode cX12_thawAll 34 = .ok (.bipush 61, 2) := by decide +kernel
theorem dX12_thawAll_36 : decode cX12_thawAll 36 = .ok (.if_icmp .ne 12, 3) := by decide +kernel
theorem dX12_thawAll_48 : decode cX12_thawAll 48 = .ok (.aload_n 0, 1) := by decide +kernel
theorem dX12_thawAll_49 : decode cX12_thawAll 49 = .ok (.iload_n 1, 1) := by decide +kernel
theorem dX12_thawAll_50 : decode cX12_thawAll 50 = .ok (.invokevirtual 76, 3) := by decide +kernel
theorem dX12_thawAll_53 : decode cX12_thawAll 53 = .ok (.ireturn, 1) := by decide +kernel
def vdq_thawAll : List Cond := [.code yX12_thawAll cX12_thawAll 2 (some .int), .methodLink RX12 338 yX12_keepsAll, .code yX12_keepsAll cX12_keepsAll 2 none, .fieldLink RX12 7 "SaltStreetModel" "at" "[I", .instanceMethod yX12_keepsAll, .selects RX12 yX12_keepsAll yX12_keepsAll, .initialized RX12, .methodLink RX12 350 yX12_isSnow, .code yX12_isSnow cX12_isSnow 2 (some .boolean), .instanceMethod yX12_isSnow, .selects RX12 yX12_isSnow yX12_isSnow, .methodLink RX12 341 yX12_takesBack, .code yX12_takesBack cX12_takesBack 2 none, .instanceMethod yX12_takesBack, .selects RX12 yX12_takesBack yX12_takesBack, .methodLink RX12 76 yX12_gives, .code yX12_gives cX12_gives 2 (some .int), .fieldLink RX12 66 "SaltStreetModel" "status" "I", .instanceMethod yX12_gives, .selects RX12 yX12_gives yX12_gives]
def vq_thawAll : List Cond := vdq_thawAll ++ (wsX120 ++ ([] : List Cond))
theorem iq_thawAll_X12 : ∀ w ∈ wsX120, w ∈ vq_thawAll := fun _ h => List.mem_append_right _ (List.mem_append_left _ h)
set_option maxRecDepth 20000 in
theorem gq_thawAll_338_m_keepsAll : GoodIn vq_thawAll (wsV RX12 338 RX12 yX12_keepsAll vm_keepsAll) := (goodIn_app (goodIn_r _ [1, 4, 5, 6] rfl (by decide +kernel)) (goodIn_app (goodIn_r vdm_keepsAll [2, 3] rfl (by decide +kernel)) (goodIn_app (goodIn_sub iq_thawAll_X12 gdX12) goodIn_nil)))
set_option maxRecDepth 20000 in
theorem gq_thawAll_350_m_isSnow : GoodIn vq_thawAll (wsV RX12 350 RX12 yX12_isSnow vm_isSnow) := (goodIn_app (goodIn_r _ [7, 9, 10, 6] rfl (by decide +kernel)) (goodIn_app (goodIn_r vdm_isSnow [8, 3] rfl (by decide +kernel)) (goodIn_app (goodIn_sub iq_thawAll_X12 gdX12) goodIn_nil)))
set_option maxRecDepth 20000 in
theorem gq_thawAll_341_m_takesBack : GoodIn vq_thawAll (wsV RX12 341 RX12 yX12_takesBack vm_takesBack) := (goodIn_app (goodIn_r _ [11, 13, 14, 6] rfl (by decide +kernel)) (goodIn_app (goodIn_r vdm_takesBack [12, 3] rfl (by decide +kernel)) (goodIn_app (goodIn_sub iq_thawAll_X12 gdX12) goodIn_nil)))
set_option maxRecDepth 20000 in
theorem gq_thawAll_76_m_gives : GoodIn vq_thawAll (wsV RX12 76 RX12 yX12_gives vm_gives) := (goodIn_app (goodIn_r _ [15, 18, 19, 6] rfl (by decide +kernel)) (goodIn_app (goodIn_r vdm_gives [16, 17] rfl (by decide +kernel)) (goodIn_app (goodIn_sub iq_thawAll_X12 gdX12) goodIn_nil)))
set_option maxHeartbeats 4000000 in
set_option maxRecDepth 100000 in
theorem q_thawAll (l : Launch) (D : va_G) (kc : Nat → ClassId) (sz : Nat) (ma : Nat → Nat) : Met l yX12_thawAll vq_thawAll ({ frames := 1, cells := 0, slots := 0, locals := 21 }) (va_Pc [.ref (ma 0)] (wPre D kc [(ma 0, .inr (11, [.ref (ma 1), .ref (ma 2), .int 0, .long 0, .long 1, .ref (ma 3), .ref (ma 4), .ref (ma 5), .ref (ma 6), .ref (ma 7), .int 0, .int 0, .int 0, .int 0, .int 0, .int 0, .int (-1), .int (-1), .int 0, .int 0, .int 0, .ref (ma 8), .int 0, .int 0, .int (-1), .int 0, .int 0, .int 0, .ref (ma 9), .int 0, .int 0, .ref (ma 10), .ref (ma 11), .ref (ma 12), .int 0, .int 0])), (ma 1, .inl (kc 0, 2880, .inl at0))] sz)) (va_Qi (fun (r : Int32) (_ : Unit) => r = 0) wAny (va_A [(ma 0, .inr (11, [.ref (ma 1), .ref (ma 2), .int 0, .long 0, .long 1, .ref (ma 3), .ref (ma 4), .ref (ma 5), .ref (ma 6), .ref (ma 7), .int 0, .int 0, .int 0, .int 0, .int 0, .int 0, .int (-1), .int (-1), .int 0, .int 0, .int 0, .ref (ma 8), .int 0, .int 0, .int (-1), .int 0, .int 0, .int 0, .ref (ma 9), .int 0, .int 0, .ref (ma 10), .ref (ma 11), .ref (ma 12), .int 0, .int 0])), (ma 1, .inl (kc 0, 2880, .inl at0))] sz)) 0 0 (va_A [(ma 0, .inr (11, [.ref (ma 1), .ref (ma 2), .int 0, .long 0, .long 1, .ref (ma 3), .ref (ma 4), .ref (ma 5), .ref (ma 6), .ref (ma 7), .int 0, .int 0, .int 0, .int 0, .int 0, .int 0, .int (-1), .int (-1), .int 0, .int 0, .int 0, .ref (ma 8), .int 0, .int 0, .int (-1), .int 0, .int 0, .int 0, .ref (ma 9), .int 0, .int 0, .ref (ma 10), .ref (ma 11), .ref (ma 12), .int 0, .int 0])), (ma 1, .inl (kc 0, 2880, .inl at0))] sz) := by
  refine Met.ofW (cc := cX12_thawAll) (maxL := 2) (ret := (some .int)) (by decide) rfl ?_
  intro p e s m args below meth c s₁ B hml hv
  obtain ⟨rfl, hsz, hP, hE, hD0⟩ := hv
  have hx := B.exec
  have hb := B.bytes
  have hr := B.returns
  have hts := atoms_spec (ws := vq_thawAll) B.pre
  have hown : s.vm.findClass RX12 = some m.cls := findClass_of_methodNamed B.named
  have hlocks := B.notSynchronized
  subst hsz
  have hD := hD0.self (sz := s.heap.size)
  generalize hAe : va_A [(ma 0, .inr (11, [.ref (ma 1), .ref (ma 2), .int 0, .long 0, .long 1, .ref (ma 3), .ref (ma 4), .ref (ma 5), .ref (ma 6), .ref (ma 7), .int 0, .int 0, .int 0, .int 0, .int 0, .int 0, .int (-1), .int (-1), .int 0, .int 0, .int 0, .ref (ma 8), .int 0, .int 0, .int (-1), .int 0, .int 0, .int 0, .ref (ma 9), .int 0, .int 0, .ref (ma 10), .ref (ma 11), .ref (ma 12), .int 0, .int 0])), (ma 1, .inl (kc 0, 2880, .inl at0))] s.heap.size = A at hD ⊢
  have hA : ∀ q : Nat, s.heap.size ≤ q → A q := fun q h => by rw [← hAe]; exact Or.inr h
  have hS : va_S A s.heap s.heap [] := va_S.rf
  have hK := hE.1
  have hP : va_P D vwCl [(ma 0, .inr (11, [.ref (ma 1), .ref (ma 2), .int 0, .long 0, .long 1, .ref (ma 3), .ref (ma 4), .ref (ma 5), .ref (ma 6), .ref (ma 7), .int 0, .int 0, .int 0, .int 0, .int 0, .int 0, .int (-1), .int (-1), .int 0, .int 0, .int 0, .ref (ma 8), .int 0, .int 0, .int (-1), .int 0, .int 0, .int 0, .ref (ma 9), .int 0, .int 0, .ref (ma 10), .ref (ma 11), .ref (ma 12), .int 0, .int 0])), (ma 1, .inl (kc 0, 2880, .inl at0))] s.heap := hP
  have hl := lv_entry ([.ref (ma 0)]) (n := 2) (Nat.le_of_ble_eq_true rfl)
  rw [lg_entry_eq]
  generalize (lg_sl ([.ref (ma 0)]) ++ List.replicate (2 - (lg_sl ([.ref (ma 0)])).length) Slot.unset).toArray = ls at hl ⊢
  have hl : lv_has ls 2 [(0, .ref (ma 0))] := hl
  refine lv_aload_n hx hb dX12_thawAll_0 rfl (lv_at hl 0 rfl) ?_
  have hPc := hP.sub (ws' := [(ma 0, .inr (11, [.ref (ma 1), .ref (ma 2), .int 0, .long 0, .long 1, .ref (ma 3), .ref (ma 4), .ref (ma 5), .ref (ma 6), .ref (ma 7), .int 0, .int 0, .int 0, .int 0, .int 0, .int 0, .int (-1), .int (-1), .int 0, .int 0, .int 0, .ref (ma 8), .int 0, .int 0, .int (-1), .int 0, .int 0, .int 0, .ref (ma 9), .int 0, .int 0, .ref (ma 10), .ref (ma 11), .ref (ma 12), .int 0, .int 0])), (ma 1, .inl (kc 0, 2880, .inl at0))]) [0, 1] rfl
  have hDc := hD.sub (ws' := [(ma 0, .inr (11, [.ref (ma 1), .ref (ma 2), .int 0, .long 0, .long 1, .ref (ma 3), .ref (ma 4), .ref (ma 5), .ref (ma 6), .ref (ma 7), .int 0, .int 0, .int 0, .int 0, .int 0, .int 0, .int (-1), .int (-1), .int 0, .int 0, .int 0, .ref (ma 8), .int 0, .int 0, .int (-1), .int 0, .int 0, .int 0, .ref (ma 9), .int 0, .int 0, .ref (ma 10), .ref (ma 11), .ref (ma 12), .int 0, .int 0])), (ma 1, .inl (kc 0, 2880, .inl at0))]) [0, 1] (by decide) rfl
  have hFc := va_free (wc := [(ma 0, .inr (11, [.ref (ma 1), .ref (ma 2), .int 0, .long 0, .long 1, .ref (ma 3), .ref (ma 4), .ref (ma 5), .ref (ma 6), .ref (ma 7), .int 0, .int 0, .int 0, .int 0, .int 0, .int 0, .int (-1), .int (-1), .int 0, .int 0, .int 0, .ref (ma 8), .int 0, .int 0, .int (-1), .int 0, .int 0, .int 0, .ref (ma 9), .int 0, .int 0, .ref (ma 10), .ref (ma 11), .ref (ma 12), .int 0, .int 0])), (ma 1, .inl (kc 0, 2880, .inl at0))]) hD hS hA [0, 1] rfl
  refine va_callv (va_runV (As := []) (rest := []) ⟨hx, hb, hml, hown, hts⟩ (m_keepsAll l D kc s.heap.size ma) (cwV 0 hts gq_thawAll_338_m_keepsAll rfl rfl rfl (by decide +kernel) ⟨Nat.le_of_ble_eq_true rfl, Nat.le_of_ble_eq_true rfl⟩) (preV_ok hPc hDc hE (ci := 11) (q0 := 0) rfl rfl) rfl rfl hl.1 rfl (lv_room (Nat.le_of_ble_eq_true rfl)) dX12_thawAll_1 ⟨Nat.le_of_ble_eq_true rfl, Nat.le_of_ble_eq_true rfl⟩) hS (fun q _ h => hFc q h) hFc (fun u9 t9 H locs ht hvm hw hB hz1 hk1 hS => ?_)
  obtain ⟨f1_1, hI1, hP1, hD1⟩ := hB
  rw [ht] at hP1
  obtain ⟨hP, hD⟩ := va_join (wr := []) (w1 := [(ma 0, .inr (11, [.ref (ma 1), .ref (ma 2), .int 0, .long 0, .long 1, .ref (ma 3), .ref (ma 4), .ref (ma 5), .ref (ma 6), .ref (ma 7), .int 0, .int 0, .int 0, .int 0, .int 0, .int 0, .int (-1), .int (-1), .int 0, .int 0, .int 0, .ref (ma 8), .int 0, .int 0, .int (-1), .int 0, .int 0, .int 0, .ref (ma 9), .int 0, .int 0, .ref (ma 10), .ref (ma 11), .ref (ma 12), .int 0, .int 0])), (ma 1, .inl (kc 0, 2880, .inl f1_1))]) hP hD [0, 1] [] rfl rfl (by decide) (by decide) hk1 hFc hP1 hD1
  have hP : va_P D vwCl [(ma 0, .inr (11, [.ref (ma 1), .ref (ma 2), .int 0, .long 0, .long 1, .ref (ma 3), .ref (ma 4), .ref (ma 5), .ref (ma 6), .ref (ma 7), .int 0, .int 0, .int 0, .int 0, .int 0, .int 0, .int (-1), .int (-1), .int 0, .int 0, .int 0, .ref (ma 8), .int 0, .int 0, .int (-1), .int 0, .int 0, .int 0, .ref (ma 9), .int 0, .int 0, .ref (ma 10), .ref (ma 11), .ref (ma 12), .int 0, .int 0])), (ma 1, .inl (kc 0, 2880, .inl f1_1))] H := hP
  have hD : va_D A [(ma 0, .inr (11, [.ref (ma 1), .ref (ma 2), .int 0, .long 0, .long 1, .ref (ma 3), .ref (ma 4), .ref (ma 5), .ref (ma 6), .ref (ma 7), .int 0, .int 0, .int 0, .int 0, .int 0, .int 0, .int (-1), .int (-1), .int 0, .int 0, .int 0, .ref (ma 8), .int 0, .int 0, .int (-1), .int 0, .int 0, .int 0, .ref (ma 9), .int 0, .int 0, .ref (ma 10), .ref (ma 11), .ref (ma 12), .int 0, .int 0])), (ma 1, .inl (kc 0, 2880, .inl f1_1))] := hD
  refine lv_iconst (v := 0) hx hb dX12_thawAll_4 (by decide) ?_
  refine lv_istore_n (lv' := [(1, .int 0), (0, .ref (ma 0))]) hx hb dX12_thawAll_5 rfl hl (by decide) rfl (fun ls hl => ?_)
  refine lv_iload_n hx hb dX12_thawAll_6 rfl (lv_at hl 0 rfl) ?_
  refine lv_bipush (v := 61) hx hb dX12_thawAll_7 (by decide) ?_
  refine lv_icmp_ge (tgt := 29) hx hb dX12_thawAll_9 (by decide) (fun h => absurd h (by decide)) (fun _ => ?_)
  refine lv_aload_n hx hb dX12_thawAll_12 rfl (lv_at hl 1 rfl) ?_
  have hPc := hP.sub (ws' := [(ma 0, .inr (11, [.ref (ma 1), .ref (ma 2), .int 0, .long 0, .long 1, .ref (ma 3), .ref (ma 4), .ref (ma 5), .ref (ma 6), .ref (ma 7), .int 0, .int 0, .int 0, .int 0, .int 0, .int 0, .int (-1), .int (-1), .int 0, .int 0, .int 0, .ref (ma 8), .int 0, .int 0, .int (-1), .int 0, .int 0, .int 0, .ref (ma 9), .int 0, .int 0, .ref (ma 10), .ref (ma 11), .ref (ma 12), .int 0, .int 0])), (ma 1, .inl (kc 0, 2880, .inl f1_1))]) [0, 1] rfl
  have hDc := hD.sub (ws' := [(ma 0, .inr (11, [.ref (ma 1), .ref (ma 2), .int 0, .long 0, .long 1, .ref (ma 3), .ref (ma 4), .ref (ma 5), .ref (ma 6), .ref (ma 7), .int 0, .int 0, .int 0, .int 0, .int 0, .int 0, .int (-1), .int (-1), .int 0, .int 0, .int 0, .ref (ma 8), .int 0, .int 0, .int (-1), .int 0, .int 0, .int 0, .ref (ma 9), .int 0, .int 0, .ref (ma 10), .ref (ma 11), .ref (ma 12), .int 0, .int 0])), (ma 1, .inl (kc 0, 2880, .inl f1_1))]) [0, 1] (by decide) rfl
  have hFc := va_free (wc := [(ma 0, .inr (11, [.ref (ma 1), .ref (ma 2), .int 0, .long 0, .long 1, .ref (ma 3), .ref (ma 4), .ref (ma 5), .ref (ma 6), .ref (ma 7), .int 0, .int 0, .int 0, .int 0, .int 0, .int 0, .int (-1), .int (-1), .int 0, .int 0, .int 0, .ref (ma 8), .int 0, .int 0, .int (-1), .int 0, .int 0, .int 0, .ref (ma 9), .int 0, .int 0, .ref (ma 10), .ref (ma 11), .ref (ma 12), .int 0, .int 0])), (ma 1, .inl (kc 0, 2880, .inl f1_1))]) hD hS hA [0, 1] rfl
  refine va_calli (va_runV (As := []) (rest := []) ⟨hx, hb, hml, hown, hts⟩ (m_isSnow l D kc H.size ma f1_1 hI1) (cwV 0 hts gq_thawAll_350_m_isSnow rfl rfl rfl (by decide +kernel) ⟨Nat.le_of_ble_eq_true rfl, Nat.le_of_ble_eq_true rfl⟩) (preV_ok hPc hDc hE (ci := 11) (q0 := 0) rfl rfl) rfl rfl hl.1 rfl (lv_room (Nat.le_of_ble_eq_true rfl)) dX12_thawAll_13 ⟨Nat.le_of_ble_eq_true rfl, Nat.le_of_ble_eq_true rfl⟩) hS (fun q _ h => hFc q h) hFc (fun r_13_1 u9 t9 H locs ht hvm hw hB hz1 hk1 hS => ?_)
  obtain ⟨hP1, hD1⟩ := hB
  rw [ht] at hP1
  obtain ⟨hP, hD⟩ := va_join (wr := []) (w1 := [(ma 0, .inr (11, [.ref (ma 1), .ref (ma 2), .int 0, .long 0, .long 1, .ref (ma 3), .ref (ma 4), .ref (ma 5), .ref (ma 6), .ref (ma 7), .int 0, .int 0, .int 0, .int 0, .int 0, .int 0, .int (-1), .int (-1), .int 0, .int 0, .int 0, .ref (ma 8), .int 0, .int 0, .int (-1), .int 0, .int 0, .int 0, .ref (ma 9), .int 0, .int 0, .ref (ma 10), .ref (ma 11), .ref (ma 12), .int 0, .int 0])), (ma 1, .inl (kc 0, 2880, .inl f1_1))]) hP hD [0, 1] [] rfl rfl (by decide) (by decide) hk1 hFc hP1 hD1
  have hP : va_P D vwCl [(ma 0, .inr (11, [.ref (ma 1), .ref (ma 2), .int 0, .long 0, .long 1, .ref (ma 3), .ref (ma 4), .ref (ma 5), .ref (ma 6), .ref (ma 7), .int 0, .int 0, .int 0, .int 0, .int 0, .int 0, .int (-1), .int (-1), .int 0, .int 0, .int 0, .ref (ma 8), .int 0, .int 0, .int (-1), .int 0, .int 0, .int 0, .ref (ma 9), .int 0, .int 0, .ref (ma 10), .ref (ma 11), .ref (ma 12), .int 0, .int 0])), (ma 1, .inl (kc 0, 2880, .inl f1_1))] H := hP
  have hD : va_D A [(ma 0, .inr (11, [.ref (ma 1), .ref (ma 2), .int 0, .long 0, .long 1, .ref (ma 3), .ref (ma 4), .ref (ma 5), .ref (ma 6), .ref (ma 7), .int 0, .int 0, .int 0, .int 0, .int 0, .int 0, .int (-1), .int (-1), .int 0, .int 0, .int 0, .ref (ma 8), .int 0, .int 0, .int (-1), .int 0, .int 0, .int 0, .ref (ma 9), .int 0, .int 0, .ref (ma 10), .ref (ma 11), .ref (ma 12), .int 0, .int 0])), (ma 1, .inl (kc 0, 2880, .inl f1_1))] := hD
  subst hw
  refine lv_if_eq (tgt := 29) hx hb dX12_thawAll_16 (by decide) (fun _ => ?_) (fun h => absurd (by decide) h)
  refine lv_aload_n hx hb dX12_thawAll_29 rfl (lv_at hl 1 rfl) ?_
  have hPc := hP.sub (ws' := [(ma 0, .inr (11, [.ref (ma 1), .ref (ma 2), .int 0, .long 0, .long 1, .ref (ma 3), .ref (ma 4), .ref (ma 5), .ref (ma 6), .ref (ma 7), .int 0, .int 0, .int 0, .int 0, .int 0, .int 0, .int (-1), .int (-1), .int 0, .int 0, .int 0, .ref (ma 8), .int 0, .int 0, .int (-1), .int 0, .int 0, .int 0, .ref (ma 9), .int 0, .int 0, .ref (ma 10), .ref (ma 11), .ref (ma 12), .int 0, .int 0])), (ma 1, .inl (kc 0, 2880, .inl f1_1))]) [0, 1] rfl
  have hDc := hD.sub (ws' := [(ma 0, .inr (11, [.ref (ma 1), .ref (ma 2), .int 0, .long 0, .long 1, .ref (ma 3), .ref (ma 4), .ref (ma 5), .ref (ma 6), .ref (ma 7), .int 0, .int 0, .int 0, .int 0, .int 0, .int 0, .int (-1), .int (-1), .int 0, .int 0, .int 0, .ref (ma 8), .int 0, .int 0, .int (-1), .int 0, .int 0, .int 0, .ref (ma 9), .int 0, .int 0, .ref (ma 10), .ref (ma 11), .ref (ma 12), .int 0, .int 0])), (ma 1, .inl (kc 0, 2880, .inl f1_1))]) [0, 1] (by decide) rfl
  have hFc := va_free (wc := [(ma 0, .inr (11, [.ref (ma 1), .ref (ma 2), .int 0, .long 0, .long 1, .ref (ma 3), .ref (ma 4), .ref (ma 5), .ref (ma 6), .ref (ma 7), .int 0, .int 0, .int 0, .int 0, .int 0, .int 0, .int (-1), .int (-1), .int 0, .int 0, .int 0, .ref (ma 8), .int 0, .int 0, .int (-1), .int 0, .int 0, .int 0, .ref (ma 9), .int 0, .int 0, .ref (ma 10), .ref (ma 11), .ref (ma 12), .int 0, .int 0])), (ma 1, .inl (kc 0, 2880, .inl f1_1))]) hD hS hA [0, 1] rfl
  refine va_callv (va_runV (As := []) (rest := []) ⟨hx, hb, hml, hown, hts⟩ (m_takesBack l D kc H.size ma f1_1) (cwV 0 hts gq_thawAll_341_m_takesBack rfl rfl rfl (by decide +kernel) ⟨Nat.le_of_ble_eq_true rfl, Nat.le_of_ble_eq_true rfl⟩) (preV_ok hPc hDc hE (ci := 11) (q0 := 0) rfl rfl) rfl rfl hl.1 rfl (lv_room (Nat.le_of_ble_eq_true rfl)) dX12_thawAll_30 ⟨Nat.le_of_ble_eq_true rfl, Nat.le_of_ble_eq_true rfl⟩) hS (fun q _ h => hFc q h) hFc (fun u9 t9 H locs ht hvm hw hB hz1 hk1 hS => ?_)
  obtain ⟨hP1, hD1⟩ := hB
  rw [ht] at hP1
  obtain ⟨hP, hD⟩ := va_join (wr := []) (w1 := [(ma 0, .inr (11, [.ref (ma 1), .ref (ma 2), .int 0, .long 0, .long 1, .ref (ma 3), .ref (ma 4), .ref (ma 5), .ref (ma 6), .ref (ma 7), .int 0, .int 0, .int 0, .int 0, .int 0, .int 0, .int (-1), .int (-1), .int 0, .int 0, .int 0, .ref (ma 8), .int 0, .int 0, .int (-1), .int 0, .int 0, .int 0, .ref (ma 9), .int 0, .int 0, .ref (ma 10), .ref (ma 11), .ref (ma 12), .int 0, .int 0]))]) hP hD [0, 1] [] rfl rfl (by decide) (by decide) hk1 hFc hP1 hD1
  have hP : va_P D vwCl [(ma 0, .inr (11, [.ref (ma 1), .ref (ma 2), .int 0, .long 0, .long 1, .ref (ma 3), .ref (ma 4), .ref (ma 5), .ref (ma 6), .ref (ma 7), .int 0, .int 0, .int 0, .int 0, .int 0, .int 0, .int (-1), .int (-1), .int 0, .int 0, .int 0, .ref (ma 8), .int 0, .int 0, .int (-1), .int 0, .int 0, .int 0, .ref (ma 9), .int 0, .int 0, .ref (ma 10), .ref (ma 11), .ref (ma 12), .int 0, .int 0]))] H := hP
  have hD : va_D A [(ma 0, .inr (11, [.ref (ma 1), .ref (ma 2), .int 0, .long 0, .long 1, .ref (ma 3), .ref (ma 4), .ref (ma 5), .ref (ma 6), .ref (ma 7), .int 0, .int 0, .int 0, .int 0, .int 0, .int 0, .int (-1), .int (-1), .int 0, .int 0, .int 0, .ref (ma 8), .int 0, .int 0, .int (-1), .int 0, .int 0, .int 0, .ref (ma 9), .int 0, .int 0, .ref (ma 10), .ref (ma 11), .ref (ma 12), .int 0, .int 0]))] := hD
  refine lv_iload_n hx hb dX12_thawAll_33 rfl (lv_at hl 0 rfl) ?_
  refine lv_bipush (v := 61) hx hb dX12_thawAll_34 (by decide) ?_
  refine lv_icmp_ne (tgt := 48) hx hb dX12_thawAll_36 (by decide) (fun _ => ?_) (fun h => absurd h (by decide))
  refine lv_aload_n hx hb dX12_thawAll_48 rfl (lv_at hl 1 rfl) ?_
  refine lv_iload_n hx hb dX12_thawAll_49 rfl (lv_at hl 0 rfl) ?_
  have hPc := hP.sub (ws' := [(ma 0, .inr (11, [.ref (ma 1), .ref (ma 2), .int 0, .long 0, .long 1, .ref (ma 3), .ref (ma 4), .ref (ma 5), .ref (ma 6), .ref (ma 7), .int 0, .int 0, .int 0, .int 0, .int 0, .int 0, .int (-1), .int (-1), .int 0, .int 0, .int 0, .ref (ma 8), .int 0, .int 0, .int (-1), .int 0, .int 0, .int 0, .ref (ma 9), .int 0, .int 0, .ref (ma 10), .ref (ma 11), .ref (ma 12), .int 0, .int 0]))]) [0] rfl
  have hDc := hD.sub (ws' := [(ma 0, .inr (11, [.ref (ma 1), .ref (ma 2), .int 0, .long 0, .long 1, .ref (ma 3), .ref (ma 4), .ref (ma 5), .ref (ma 6), .ref (ma 7), .int 0, .int 0, .int 0, .int 0, .int 0, .int 0, .int (-1), .int (-1), .int 0, .int 0, .int 0, .ref (ma 8), .int 0, .int 0, .int (-1), .int 0, .int 0, .int 0, .ref (ma 9), .int 0, .int 0, .ref (ma 10), .ref (ma 11), .ref (ma 12), .int 0, .int 0]))]) [0] (by decide) rfl
  have hFc := va_free (wc := [(ma 0, .inr (11, [.ref (ma 1), .ref (ma 2), .int 0, .long 0, .long 1, .ref (ma 3), .ref (ma 4), .ref (ma 5), .ref (ma 6), .ref (ma 7), .int 0, .int 0, .int 0, .int 0, .int 0, .int 0, .int (-1), .int (-1), .int 0, .int 0, .int 0, .ref (ma 8), .int 0, .int 0, .int (-1), .int 0, .int 0, .int 0, .ref (ma 9), .int 0, .int 0, .ref (ma 10), .ref (ma 11), .ref (ma 12), .int 0, .int 0]))]) hD hS hA [0] rfl
  refine va_calli (va_runV (As := [.int 0]) (rest := []) ⟨hx, hb, hml, hown, hts⟩ (m_gives l D kc H.size ma 0 0 1 0 0 0 0 0 0 (-1) (-1) 0 0 0 0 0 (-1) 0 0 0 0 0 0 0 0) (cwV 1 hts gq_thawAll_76_m_gives rfl rfl rfl (by decide +kernel) ⟨Nat.le_of_ble_eq_true rfl, Nat.le_of_ble_eq_true rfl⟩) (preV_ok hPc hDc hE (ci := 11) (q0 := 0) rfl rfl) rfl rfl hl.1 rfl (lv_room (Nat.le_of_ble_eq_true rfl)) dX12_thawAll_50 ⟨Nat.le_of_ble_eq_true rfl, Nat.le_of_ble_eq_true rfl⟩) hS (fun q _ h => hFc q h) hFc (fun r_50_1 u9 t9 H locs ht hvm hw hB hz1 hk1 hS => ?_)
  obtain ⟨hP1, hD1⟩ := hB
  rw [ht] at hP1
  obtain ⟨hP, hD⟩ := va_join (wr := []) (w1 := [(ma 0, .inr (11, [.ref (ma 1), .ref (ma 2), .int 0, .long 0, .long 1, .ref (ma 3), .ref (ma 4), .ref (ma 5), .ref (ma 6), .ref (ma 7), .int 0, .int 0, .int 0, .int 0, .int 0, .int 0, .int (-1), .int (-1), .int 0, .int 0, .int 0, .ref (ma 8), .int 0, .int 0, .int (-1), .int 0, .int 0, .int 0, .ref (ma 9), .int 0, .int 0, .ref (ma 10), .ref (ma 11), .ref (ma 12), .int 0, .int 0]))]) hP hD [0] [] rfl rfl (by decide) (by decide) hk1 hFc hP1 hD1
  have hP : va_P D vwCl [(ma 0, .inr (11, [.ref (ma 1), .ref (ma 2), .int 0, .long 0, .long 1, .ref (ma 3), .ref (ma 4), .ref (ma 5), .ref (ma 6), .ref (ma 7), .int 0, .int 0, .int 0, .int 0, .int 0, .int 0, .int (-1), .int (-1), .int 0, .int 0, .int 0, .ref (ma 8), .int 0, .int 0, .int (-1), .int 0, .int 0, .int 0, .ref (ma 9), .int 0, .int 0, .ref (ma 10), .ref (ma 11), .ref (ma 12), .int 0, .int 0]))] H := hP
  have hD : va_D A [(ma 0, .inr (11, [.ref (ma 1), .ref (ma 2), .int 0, .long 0, .long 1, .ref (ma 3), .ref (ma 4), .ref (ma 5), .ref (ma 6), .ref (ma 7), .int 0, .int 0, .int 0, .int 0, .int 0, .int 0, .int (-1), .int (-1), .int 0, .int 0, .int 0, .ref (ma 8), .int 0, .int 0, .int (-1), .int 0, .int 0, .int 0, .ref (ma 9), .int 0, .int 0, .ref (ma 10), .ref (ma 11), .ref (ma 12), .int 0, .int 0]))] := hD
  subst hw
  exact W.iret (v := 0) hx hb hr (fun t9 ht hW => ⟨⟨0, (), rfl, rfl, trivial⟩, hS.F ht⟩) hS.2.2 dX12_thawAll_53
theorem dX12_copies_0 : decode cX12_copies 0 = .ok (.iconst 0, 1) := by decide +kernel
theorem dX12_copies_1 : decode cX12_copies 1 = .ok (.istore_n 3, 1) := by decide +kernel
theorem dX12_copies_2 : decode cX12_copies 2 = .ok (.iload_n 3, 1) := by decide +kernel
theorem dX12_copies_3 : decode cX12_copies 3 = .ok (.sipush 480, 3) := by decide +kernel
theorem dX12_copies_6 : decode cX12_copies 6 = .ok (.if_icmp .ge 33, 3) := by decide +kernel
theorem dX12_copies_9 : decode cX12_copies 9 = .ok (.aload_n 0, 1) := by decide +kernel
theorem dX12_copies_10 : decode cX12_copies 10 = .ok (.getfield 7, 3) := by decide +kernel
theorem dX12_copies_13 : decode cX12_copies 13 = .ok (.sipush 480, 3) := by decide +kernel
theorem dX12_copies_16 : decode cX12_copies 16 = .ok (.iload_n 2, 1) := by decide +kernel
theorem dX12_copies_17 : decode cX12_copies 17 = .ok (.imul, 1) := by decide +kernel
theorem dX12_copies_18 : decode cX12_copies 18 = .ok (.iload_n 3, 1) := by decide +kernel
theorem dX12_copies_19 : decode cX12_copies 19 = .ok (.iadd, 1) := by decide +kernel
theorem dX12_copies_20 : decode cX12_copies 20 = .ok (.aload_n 0, 1) := by decide +kernel
theorem dX12_copies_21 : decode cX12_copies 21 = .ok (.getfield 7, 3) := by decide +kernel
theorem dX12_copies_24 : decode cX12_copies 24 = .ok (.sipush 480, 3) := by decide +kernel
theorem dX12_copies_27 : decode cX12_copies 27 = .ok (.iload_n 1, 1) := by decide +kernel
theorem dX12_copies_28 : decode cX12_copies 28 = .ok (.imul, 1) := by decide +kernel
theorem dX12_copies_29 : decode cX12_copies 29 = .ok (.iload_n 3, 1) := by decide +kernel
theorem dX12_copies_30 : decode cX12_copies 30 = .ok (.iadd, 1) := by decide +kernel
theorem dX12_copies_31 : decode cX12_copies 31 = .ok (.iaload, 1) := by decide +kernel
theorem dX12_copies_32 : decode cX12_copies 32 = .ok (.iastore, 1) := by decide +kernel
theorem dX12_copies_33 : decode cX12_copies 33 = .ok (.iinc 3 1, 3) := by decide +kernel
theorem dX12_copies_36 : decode cX12_copies 36 = .ok (.goto (-34), 3) := by decide +kernel
theorem dX12_copies_39 : decode cX12_copies 39 = .ok (.iconst 0, 1) := by decide +kernel
theorem dX12_copies_40 : decode cX12_copies 40 = .ok (.istore_n 3, 1) := by decide +kernel
theorem dX12_copies_41 : decode cX12_copies 41 = .ok (.iload_n 3, 1) := by decide +kernel
theorem dX12_copies_42 : decode cX12_copies 42 = .ok (.bipush 24, 2) := by decide +kernel
theorem dX12_copies_44 : decode cX12_copies 44 = .ok (.if_icmp .ge 31, 3) := by decide +kernel
theorem dX12_copies_47 : decode cX12_copies 47 = .ok (.aload_n 0, 1) := by decide +kernel
theorem dX12_copies_48 : decode cX12_copies 48 = .ok (.getfield 13, 3) := by decide +kernel
theorem dX12_copies_51 : decode cX12_copies 51 = .ok (.bipush 24, 2) := by decide +kernel
theorem dX12_copies_53 : decode cX12_copies 53 = .ok (.iload_n 2, 1) := by decide +kernel
theorem dX12_copies_54 : decode cX12_copies 54 = .ok (.imul, 1) := by decide +kernel
theorem dX12_copies_55 : decode cX12_copies 55 = .ok (.iload_n 3, 1) := by decide +kernel
theorem dX12_copies_56 : decode cX12_copies 56 = .ok (.iadd, 1) := by decide +kernel
theorem dX12_copies_57 : decode cX12_copies 57 = .ok (.aload_n 0, 1) := by decide +kernel
theorem dX12_copies_58 : decode cX12_copies 58 = .ok (.getfield 13, 3) := by decide +kernel
theorem dX12_copies_61 : decode cX12_copies 61 = .ok (.bipush 24, 2) := by decide +kernel
theorem dX12_copies_63 : decode cX12_copies 63 = .ok (.iload_n 1, 1) := by decide +kernel
theorem dX12_copies_64 : decode cX12_copies 64 = .ok (.imul, 1) := by decide +kernel
theorem dX12_copies_65 : decode cX12_copies 65 = .ok (.iload_n 3, 1) := by decide +kernel
theorem dX12_copies_66 : decode cX12_copies 66 = .ok (.iadd, 1) := by decide +kernel
theorem dX12_copies_67 : decode cX12_copies 67 = .ok (.laload, 1) := by decide +kernel
theorem dX12_copies_68 : decode cX12_copies 68 = .ok (.lastore, 1) := by decide +kernel
theorem dX12_copies_69 : decode cX12_copies 69 = .ok (.iinc 3 1, 3) := by decide +kernel
theorem dX12_copies_72 : decode cX12_copies 72 = .ok (.goto (-31), 3) := by decide +kernel
theorem dX12_copies_75 : decode cX12_copies 75 = .ok (.return_, 1) := by decide +kernel
def vdm_copies : List Cond := [.code yX12_copies cX12_copies 4 none, .fieldLink RX12 7 "SaltStreetModel" "at" "[I", .fieldLink RX12 13 "SaltStreetModel" "names" "[J"]
def vm_copies : List Cond := vdm_copies ++ (wsX120 ++ ([] : List Cond))
theorem im_copies_X12 : ∀ w ∈ wsX120, w ∈ vm_copies := fun _ h => List.mem_append_right _ (List.mem_append_left _ h)
set_option maxHeartbeats 4000000 in
set_option maxRecDepth 100000 in
theorem lp_copA_12 {p : Program} {l : Launch} {e : Env} {R : Room} {s : State} {m : MethodId} {args : Array Value} {below : List Frame} {meth : Method} {c : Code} {cells slots : Nat} {Q : State → Prop} {A : Nat → Prop} {D : va_G} {kc : Nat → ClassId} (ma : Nat → Nat) (g_status : Int32) (g_top : Int64) (g_bottom : Int64) (g_taped : Int32) (g_size : Int32) (g_token : Int32) (g_from : Int32) (g_end : Int32) (g_value : Int32) (g_faultKind : Int32) (g_faultPlace : Int32) (g_faults : Int32) (g_seen : Int32) (g_told0 : Int32) (g_depth : Int32) (g_counted : Int32) (g_easy : Int32) (g_ended : Int32) (g_began : Int32) (g_lastPrice : Int32) (g_drawn : Int32) (g_ranSteps : Int32) (g_isTold : Int32) (g_marks : Int32) (hx : p.tables.exec = Jvm.exec) (hb : c.code = cX12_copies) (hml : c.maxLocals = 4) (hown : s.vm.findClass RX12 = some m.cls) (hts : ∀ w ∈ vm_copies, w.before args s = true) (hE : EK D kc s) (kk : ∀ (f9 : Nat → Int32) (H : Heap) (locs : List Loc) (ls : Array Slot), True → va_P D vwCl [(ma 0, .inr (11, [.ref (ma 1), .ref (ma 2), .int g_status, .long g_top, .long g_bottom, .ref (ma 3), .ref (ma 4), .ref (ma 5), .ref (ma 6), .ref (ma 7), .int g_taped, .int g_size, .int g_token, .int g_from, .int g_end, .int g_value, .int g_faultKind, .int g_faultPlace, .int g_faults, .int g_seen, .int g_told0, .ref (ma 8), .int g_depth, .int g_counted, .int g_easy, .int g_ended, .int g_began, .int g_lastPrice, .ref (ma 9), .int g_drawn, .int g_ranSteps, .ref (ma 10), .ref (ma 11), .ref (ma 12), .int g_isTold, .int g_marks])), (ma 1, .inl (kc 0, 2880, .inl f9)), (ma 2, .inl (kc 1, 130, .inr (.inl z1)))] H → va_D A [(ma 0, .inr (11, [.ref (ma 1), .ref (ma 2), .int g_status, .long g_top, .long g_bottom, .ref (ma 3), .ref (ma 4), .ref (ma 5), .ref (ma 6), .ref (ma 7), .int g_taped, .int g_size, .int g_token, .int g_from, .int g_end, .int g_value, .int g_faultKind, .int g_faultPlace, .int g_faults, .int g_seen, .int g_told0, .ref (ma 8), .int g_depth, .int g_counted, .int g_easy, .int g_ended, .int g_began, .int g_lastPrice, .ref (ma 9), .int g_drawn, .int g_ranSteps, .ref (ma 10), .ref (ma 11), .ref (ma 12), .int g_isTold, .int g_marks])), (ma 1, .inl (kc 0, 2880, .inl f9)), (ma 2, .inl (kc 1, 130, .inr (.inl z1)))] → va_S A s.heap H locs → lv_has ls 4 [(3, .int (nI 480)), (0, .ref (ma 0)), (1, .int 0), (2, .int 1)] → W p l e R s m args below meth c H locs cells slots Q (F0 m 39 ls [])) : ∀ (n9 i9 : Nat), i9 ≤ 480 → 480 < i9 + n9 → ∀ (f9 : Nat → Int32) (H : Heap) (locs : List Loc) (ls : Array Slot), True → va_P D vwCl [(ma 0, .inr (11, [.ref (ma 1), .ref (ma 2), .int g_status, .long g_top, .long g_bottom, .ref (ma 3), .ref (ma 4), .ref (ma 5), .ref (ma 6), .ref (ma 7), .int g_taped, .int g_size, .int g_token, .int g_from, .int g_end, .int g_value, .int g_faultKind, .int g_faultPlace, .int g_faults, .int g_seen, .int g_told0, .ref (ma 8), .int g_depth, .int g_counted, .int g_easy, .int g_ended, .int g_began, .int g_lastPrice, .ref (ma 9), .int g_drawn, .int g_ranSteps, .ref (ma 10), .ref (ma 11), .ref (ma 12), .int g_isTold, .int g_marks])), (ma 1, .inl (kc 0, 2880, .inl f9)), (ma 2, .inl (kc 1, 130, .inr (.inl z1)))] H → va_D A [(ma 0, .inr (11, [.ref (ma 1), .ref (ma 2), .int g_status, .long g_top, .long g_bottom, .ref (ma 3), .ref (ma 4), .ref (ma 5), .ref (ma 6), .ref (ma 7), .int g_taped, .int g_size, .int g_token, .int g_from, .int g_end, .int g_value, .int g_faultKind, .int g_faultPlace, .int g_faults, .int g_seen, .int g_told0, .ref (ma 8), .int g_depth, .int g_counted, .int g_easy, .int g_ended, .int g_began, .int g_lastPrice, .ref (ma 9), .int g_drawn, .int g_ranSteps, .ref (ma 10), .ref (ma 11), .ref (ma 12), .int g_isTold, .int g_marks])), (ma 1, .inl (kc 0, 2880, .inl f9)), (ma 2, .inl (kc 1, 130, .inr (.inl z1)))] → va_S A s.heap H locs → lv_has ls 4 [(3, .int (nI i9)), (0, .ref (ma 0)), (1, .int 0), (2, .int 1)] → W p l e R s m args below meth c H locs cells slots Q (F0 m 2 ls []) := by
  have hK := hE.1
  intro n9
  induction n9 with
  | zero => intro i9 h1 h2; exact absurd h2 (by omega)
  | succ n9 ih =>
    intro i9 h1 h2 f9 H locs ls hI hP hD hS hl
    rcases Nat.lt_or_ge i9 480 with hlt | hge
    · refine lv_iload_n hx hb dX12_copies_2 rfl (lv_at hl 0 rfl) ?_
      refine lv_sipush (v := 480) hx hb dX12_copies_3 (by decide) ?_
      refine lv_icmp_ge (tgt := 39) hx hb dX12_copies_6 (by decide) (fun h => absurd h (nI_ge hlt (by decide))) (fun _ => ?_)
      refine lv_aload_n hx hb dX12_copies_9 rfl (lv_at hl 1 rfl) ?_
      refine va_get (D := D) (ci := 11) (v := .ref (ma 1)) (C := RX12) (T := TX12) (N := 36) hx hb hts im_copies_X12 hown hK hP 0 rfl rfl 0 (by decide) (hts (.fieldLink RX12 7 "SaltStreetModel" "at" "[I") (List.mem_of_getElem? (i := 1) rfl)) (fun _ h9 => h9) rfl dX12_copies_10 ?_
      refine lv_sipush (v := 480) hx hb dX12_copies_13 (by decide) ?_
      refine lv_iload_n hx hb dX12_copies_16 rfl (lv_at hl 3 rfl) ?_
      refine lv_imul hx hb dX12_copies_17 ?_
      refine lv_ci (y := 480) (by decide) ?_
      refine lv_iload_n hx hb dX12_copies_18 rfl (lv_at hl 0 rfl) ?_
      refine lv_iadd hx hb dX12_copies_19 ?_
      refine lv_ci (y := (nI (480 + i9))) (nI_add _ _) ?_
      refine lv_aload_n hx hb dX12_copies_20 rfl (lv_at hl 1 rfl) ?_
      refine va_get (D := D) (ci := 11) (v := .ref (ma 1)) (C := RX12) (T := TX12) (N := 36) hx hb hts im_copies_X12 hown hK hP 0 rfl rfl 0 (by decide) (hts (.fieldLink RX12 7 "SaltStreetModel" "at" "[I") (List.mem_of_getElem? (i := 1) rfl)) (fun _ h9 => h9) rfl dX12_copies_21 ?_
      refine lv_sipush (v := 480) hx hb dX12_copies_24 (by decide) ?_
      refine lv_iload_n hx hb dX12_copies_27 rfl (lv_at hl 2 rfl) ?_
      refine lv_imul hx hb dX12_copies_28 ?_
      refine lv_ci (y := 0) (by decide) ?_
      refine lv_iload_n hx hb dX12_copies_29 rfl (lv_at hl 0 rfl) ?_
      refine lv_iadd hx hb dX12_copies_30 ?_
      refine lv_ci (y := (nI (0 + i9))) (nI_add _ _) ?_
      refine va_iald hx hb hK hP 1 0 (f := f9) rfl rfl (vp_in_nI (by omega) (by decide)) dX12_copies_31 ?_
      refine va_iast hx hb hK hP hD hS 1 0 (f := f9) rfl rfl (vp_in_nI (by omega) (by decide)) dX12_copies_32 (fun H locs hP hD hS => ?_)
      have hP : va_P D vwCl [(ma 0, .inr (11, [.ref (ma 1), .ref (ma 2), .int g_status, .long g_top, .long g_bottom, .ref (ma 3), .ref (ma 4), .ref (ma 5), .ref (ma 6), .ref (ma 7), .int g_taped, .int g_size, .int g_token, .int g_from, .int g_end, .int g_value, .int g_faultKind, .int g_faultPlace, .int g_faults, .int g_seen, .int g_told0, .ref (ma 8), .int g_depth, .int g_counted, .int g_easy, .int g_ended, .int g_began, .int g_lastPrice, .ref (ma 9), .int g_drawn, .int g_ranSteps, .ref (ma 10), .ref (ma 11), .ref (ma 12), .int g_isTold, .int g_marks])), (ma 1, .inl (kc 0, 2880, .inl (upd f9 ((nI (480 + i9)) : Int32).toNatClampNeg (f9 ((nI (0 + i9)) : Int32).toNatClampNeg)))), (ma 2, .inl (kc 1, 130, .inr (.inl z1)))] H := hP
      have hD : va_D A [(ma 0, .inr (11, [.ref (ma 1), .ref (ma 2), .int g_status, .long g_top, .long g_bottom, .ref (ma 3), .ref (ma 4), .ref (ma 5), .ref (ma 6), .ref (ma 7), .int g_taped, .int g_size, .int g_token, .int g_from, .int g_end, .int g_value, .int g_faultKind, .int g_faultPlace, .int g_faults, .int g_seen, .int g_told0, .ref (ma 8), .int g_depth, .int g_counted, .int g_easy, .int g_ended, .int g_began, .int g_lastPrice, .ref (ma 9), .int g_drawn, .int g_ranSteps, .ref (ma 10), .ref (ma 11), .ref (ma 12), .int g_isTold, .int g_marks])), (ma 1, .inl (kc 0, 2880, .inl (upd f9 ((nI (480 + i9)) : Int32).toNatClampNeg (f9 ((nI (0 + i9)) : Int32).toNatClampNeg)))), (ma 2, .inl (kc 1, 130, .inr (.inl z1)))] := hD
      refine lv_iinc (v := (nI (i9 + 1))) (lv' := [(3, .int (nI (i9 + 1))), (0, .ref (ma 0)), (1, .int 0), (2, .int 1)]) hx hb dX12_copies_33 hl (k := 0) rfl (nI_1 _) (by decide) rfl (fun ls hl => ?_)
      refine lv_goto (tgt := 2) hx hb dX12_copies_36 (by decide) ?_
      exact ih (i9 + 1) (by omega) (by omega) (upd f9 ((nI (480 + i9)) : Int32).toNatClampNeg (f9 ((nI (0 + i9)) : Int32).toNatClampNeg)) H locs ls (trivial) hP hD hS (lv_sub hl [0, 1, 2, 3] rfl)
    · obtain rfl : i9 = 480 := by omega
      refine lv_iload_n hx hb dX12_copies_2 rfl (lv_at hl 0 rfl) ?_
      refine lv_sipush (v := 480) hx hb dX12_copies_3 (by decide) ?_
      refine lv_icmp_ge (tgt := 39) hx hb dX12_copies_6 (by decide) (fun _ => ?_) (fun h => absurd (Int32.le_refl _) h)
      exact kk f9 H locs ls hI hP hD hS (lv_sub hl [0, 1, 2, 3] rfl)
set_option maxHeartbeats 4000000 in
set_option maxRecDepth 100000 in
theorem lp_copB_13 {p : Program} {l : Launch} {e : Env} {R : Room} {s : State} {m : MethodId} {args : Array Value} {below : List Frame} {meth : Method} {c : Code} {cells slots : Nat} {Q : State → Prop} {A : Nat → Prop} {D : va_G} {kc : Nat → ClassId} (ma : Nat → Nat) (g_status : Int32) (g_top : Int64) (g_bottom : Int64) (g_taped : Int32) (g_size : Int32) (g_token : Int32) (g_from : Int32) (g_end : Int32) (g_value : Int32) (g_faultKind : Int32) (g_faultPlace : Int32) (g_faults : Int32) (g_seen : Int32) (g_told0 : Int32) (g_depth : Int32) (g_counted : Int32) (g_easy : Int32) (g_ended : Int32) (g_began : Int32) (g_lastPrice : Int32) (g_drawn : Int32) (g_ranSteps : Int32) (g_isTold : Int32) (g_marks : Int32) (f9_2 : Nat → Int32) (hx : p.tables.exec = Jvm.exec) (hb : c.code = cX12_copies) (hml : c.maxLocals = 4) (hown : s.vm.findClass RX12 = some m.cls) (hts : ∀ w ∈ vm_copies, w.before args s = true) (hE : EK D kc s) (kk : ∀ (H : Heap) (locs : List Loc) (ls : Array Slot), True → va_P D vwCl [(ma 0, .inr (11, [.ref (ma 1), .ref (ma 2), .int g_status, .long g_top, .long g_bottom, .ref (ma 3), .ref (ma 4), .ref (ma 5), .ref (ma 6), .ref (ma 7), .int g_taped, .int g_size, .int g_token, .int g_from, .int g_end, .int g_value, .int g_faultKind, .int g_faultPlace, .int g_faults, .int g_seen, .int g_told0, .ref (ma 8), .int g_depth, .int g_counted, .int g_easy, .int g_ended, .int g_began, .int g_lastPrice, .ref (ma 9), .int g_drawn, .int g_ranSteps, .ref (ma 10), .ref (ma 11), .ref (ma 12), .int g_isTold, .int g_marks])), (ma 1, .inl (kc 0, 2880, .inl f9_2)), (ma 2, .inl (kc 1, 130, .inr (.inl z1)))] H → va_D A [(ma 0, .inr (11, [.ref (ma 1), .ref (ma 2), .int g_status, .long g_top, .long g_bottom, .ref (ma 3), .ref (ma 4), .ref (ma 5), .ref (ma 6), .ref (ma 7), .int g_taped, .int g_size, .int g_token, .int g_from, .int g_end, .int g_value, .int g_faultKind, .int g_faultPlace, .int g_faults, .int g_seen, .int g_told0, .ref (ma 8), .int g_depth, .int g_counted, .int g_easy, .int g_ended, .int g_began, .int g_lastPrice, .ref (ma 9), .int g_drawn, .int g_ranSteps, .ref (ma 10), .ref (ma 11), .ref (ma 12), .int g_isTold, .int g_marks])), (ma 1, .inl (kc 0, 2880, .inl f9_2)), (ma 2, .inl (kc 1, 130, .inr (.inl z1)))] → va_S A s.heap H locs → lv_has ls 4 [(3, .int (nI 24)), (0, .ref (ma 0)), (1, .int 0), (2, .int 1)] → W p l e R s m args below meth c H locs cells slots Q (F0 m 75 ls [])) : ∀ (n9 i9 : Nat), i9 ≤ 24 → 24 < i9 + n9 → ∀ (H : Heap) (locs : List Loc) (ls : Array Slot), True → va_P D vwCl [(ma 0, .inr (11, [.ref (ma 1), .ref (ma 2), .int g_status, .long g_top, .long g_bottom, .ref (ma 3), .ref (ma 4), .ref (ma 5), .ref (ma 6), .ref (ma 7), .int g_taped, .int g_size, .int g_token, .int g_from, .int g_end, .int g_value, .int g_faultKind, .int g_faultPlace, .int g_faults, .int g_seen, .int g_told0, .ref (ma 8), .int g_depth, .int g_counted, .int g_easy, .int g_ended, .int g_began, .int g_lastPrice, .ref (ma 9), .int g_drawn, .int g_ranSteps, .ref (ma 10), .ref (ma 11), .ref (ma 12), .int g_isTold, .int g_marks])), (ma 1, .inl (kc 0, 2880, .inl f9_2)), (ma 2, .inl (kc 1, 130, .inr (.inl z1)))] H → va_D A [(ma 0, .inr (11, [.ref (ma 1), .ref (ma 2), .int g_status, .long g_top, .long g_bottom, .ref (ma 3), .ref (ma 4), .ref (ma 5), .ref (ma 6), .ref (ma 7), .int g_taped, .int g_size, .int g_token, .int g_from, .int g_end, .int g_value, .int g_faultKind, .int g_faultPlace, .int g_faults, .int g_seen, .int g_told0, .ref (ma 8), .int g_depth, .int g_counted, .int g_easy, .int g_ended, .int g_began, .int g_lastPrice, .ref (ma 9), .int g_drawn, .int g_ranSteps, .ref (ma 10), .ref (ma 11), .ref (ma 12), .int g_isTold, .int g_marks])), (ma 1, .inl (kc 0, 2880, .inl f9_2)), (ma 2, .inl (kc 1, 130, .inr (.inl z1)))] → va_S A s.heap H locs → lv_has ls 4 [(3, .int (nI i9)), (0, .ref (ma 0)), (1, .int 0), (2, .int 1)] → W p l e R s m args below meth c H locs cells slots Q (F0 m 41 ls []) := by
  have hK := hE.1
  intro n9
  induction n9 with
  | zero => intro i9 h1 h2; exact absurd h2 (by omega)
  | succ n9 ih =>
    intro i9 h1 h2 H locs ls hI hP hD hS hl
    rcases Nat.lt_or_ge i9 24 with hlt | hge
    · refine lv_iload_n hx hb dX12_copies_41 rfl (lv_at hl 0 rfl) ?_
      refine lv_bipush (v := 24) hx hb dX12_copies_42 (by decide) ?_
      refine lv_icmp_ge (tgt := 75) hx hb dX12_copies_44 (by decide) (fun h => absurd h (nI_ge hlt (by decide))) (fun _ => ?_)
      refine lv_aload_n hx hb dX12_copies_47 rfl (lv_at hl 1 rfl) ?_
      refine va_get (D := D) (ci := 11) (v := .ref (ma 2)) (C := RX12) (T := TX12) (N := 36) hx hb hts im_copies_X12 hown hK hP 0 rfl rfl 1 (by decide) (hts (.fieldLink RX12 13 "SaltStreetModel" "names" "[J") (List.mem_of_getElem? (i := 2) rfl)) (fun _ h9 => h9) rfl dX12_copies_48 ?_
      refine lv_bipush (v := 24) hx hb dX12_copies_51 (by decide) ?_
      refine lv_iload_n hx hb dX12_copies_53 rfl (lv_at hl 3 rfl) ?_
      refine lv_imul hx hb dX12_copies_54 ?_
      refine lv_ci (y := 24) (by decide) ?_
      refine lv_iload_n hx hb dX12_copies_55 rfl (lv_at hl 0 rfl) ?_
      refine lv_iadd hx hb dX12_copies_56 ?_
      refine lv_ci (y := (nI (24 + i9))) (nI_add _ _) ?_
      refine lv_aload_n hx hb dX12_copies_57 rfl (lv_at hl 1 rfl) ?_
      refine va_get (D := D) (ci := 11) (v := .ref (ma 2)) (C := RX12) (T := TX12) (N := 36) hx hb hts im_copies_X12 hown hK hP 0 rfl rfl 1 (by decide) (hts (.fieldLink RX12 13 "SaltStreetModel" "names" "[J") (List.mem_of_getElem? (i := 2) rfl)) (fun _ h9 => h9) rfl dX12_copies_58 ?_
      refine lv_bipush (v := 24) hx hb dX12_copies_61 (by decide) ?_
      refine lv_iload_n hx hb dX12_copies_63 rfl (lv_at hl 2 rfl) ?_
      refine lv_imul hx hb dX12_copies_64 ?_
      refine lv_ci (y := 0) (by decide) ?_
      refine lv_iload_n hx hb dX12_copies_65 rfl (lv_at hl 0 rfl) ?_
      refine lv_iadd hx hb dX12_copies_66 ?_
      refine lv_ci (y := (nI (0 + i9))) (nI_add _ _) ?_
      refine va_lald hx hb hK hP 2 1 (f := z1) rfl rfl (vp_in_nI (by omega) (by decide)) dX12_copies_67 ?_
      refine lv_cl (y := 0) (rfl) ?_
      refine va_last hx hb hK hP hD hS 2 1 (f := z1) rfl rfl (vp_in_nI (by omega) (by decide)) dX12_copies_68 (fun H locs hP hD hS => ?_)
      have hP : va_P D vwCl [(ma 0, .inr (11, [.ref (ma 1), .ref (ma 2), .int g_status, .long g_top, .long g_bottom, .ref (ma 3), .ref (ma 4), .ref (ma 5), .ref (ma 6), .ref (ma 7), .int g_taped, .int g_size, .int g_token, .int g_from, .int g_end, .int g_value, .int g_faultKind, .int g_faultPlace, .int g_faults, .int g_seen, .int g_told0, .ref (ma 8), .int g_depth, .int g_counted, .int g_easy, .int g_ended, .int g_began, .int g_lastPrice, .ref (ma 9), .int g_drawn, .int g_ranSteps, .ref (ma 10), .ref (ma 11), .ref (ma 12), .int g_isTold, .int g_marks])), (ma 1, .inl (kc 0, 2880, .inl f9_2)), (ma 2, .inl (kc 1, 130, .inr (.inl (vp_updL z1 ((nI (24 + i9)) : Int32).toNatClampNeg 0))))] H := hP
      have hD : va_D A [(ma 0, .inr (11, [.ref (ma 1), .ref (ma 2), .int g_status, .long g_top, .long g_bottom, .ref (ma 3), .ref (ma 4), .ref (ma 5), .ref (ma 6), .ref (ma 7), .int g_taped, .int g_size, .int g_token, .int g_from, .int g_end, .int g_value, .int g_faultKind, .int g_faultPlace, .int g_faults, .int g_seen, .int g_told0, .ref (ma 8), .int g_depth, .int g_counted, .int g_easy, .int g_ended, .int g_began, .int g_lastPrice, .ref (ma 9), .int g_drawn, .int g_ranSteps, .ref (ma 10), .ref (ma 11), .ref (ma 12), .int g_isTold, .int g_marks])), (ma 1, .inl (kc 0, 2880, .inl f9_2)), (ma 2, .inl (kc 1, 130, .inr (.inl (vp_updL z1 ((nI (24 + i9)) : Int32).toNatClampNeg 0))))] := hD
      rw [show (vp_updL z1 ((nI (24 + i9)) : Int32).toNatClampNeg 0) = z1 from updl_z1 _] at hP hD
      refine lv_iinc (v := (nI (i9 + 1))) (lv' := [(3, .int (nI (i9 + 1))), (0, .ref (ma 0)), (1, .int 0), (2, .int 1)]) hx hb dX12_copies_69 hl (k := 0) rfl (nI_1 _) (by decide) rfl (fun ls hl => ?_)
      refine lv_goto (tgt := 41) hx hb dX12_copies_72 (by decide) ?_
      exact ih (i9 + 1) (by omega) (by omega) H locs ls (trivial) hP hD hS (lv_sub hl [0, 1, 2, 3] rfl)
    · obtain rfl : i9 = 24 := by omega
      refine lv_iload_n hx hb dX12_copies_41 rfl (lv_at hl 0 rfl) ?_
      refine lv_bipush (v := 24) hx hb dX12_copies_42 (by decide) ?_
      refine lv_icmp_ge (tgt := 75) hx hb dX12_copies_44 (by decide) (fun _ => ?_) (fun h => absurd (Int32.le_refl _) h)
      exact kk H locs ls hI hP hD hS (lv_sub hl [0, 1, 2, 3] rfl)
set_option maxHeartbeats 4000000 in
set_option maxRecDepth 100000 in
theorem m_copies (l : Launch) (D : va_G) (kc : Nat → ClassId) (sz : Nat) (ma : Nat → Nat) (g_status : Int32) (g_top : Int64) (g_bottom : Int64) (g_taped : Int32) (g_size : Int32) (g_token : Int32) (g_from : Int32) (g_end : Int32) (g_value : Int32) (g_faultKind : Int32) (g_faultPlace : Int32) (g_faults : Int32) (g_seen : Int32) (g_told0 : Int32) (g_depth : Int32) (g_counted : Int32) (g_easy : Int32) (g_ended : Int32) (g_began : Int32) (g_lastPrice : Int32) (g_drawn : Int32) (g_ranSteps : Int32) (g_isTold : Int32) (g_marks : Int32) : Met l yX12_copies vm_copies ({ frames := 0, cells := 0, slots := 0, locals := 0 }) (va_Pc [.ref (ma 0), .int 0, .int 1] (wPre D kc [(ma 0, .inr (11, [.ref (ma 1), .ref (ma 2), .int g_status, .long g_top, .long g_bottom, .ref (ma 3), .ref (ma 4), .ref (ma 5), .ref (ma 6), .ref (ma 7), .int g_taped, .int g_size, .int g_token, .int g_from, .int g_end, .int g_value, .int g_faultKind, .int g_faultPlace, .int g_faults, .int g_seen, .int g_told0, .ref (ma 8), .int g_depth, .int g_counted, .int g_easy, .int g_ended, .int g_began, .int g_lastPrice, .ref (ma 9), .int g_drawn, .int g_ranSteps, .ref (ma 10), .ref (ma 11), .ref (ma 12), .int g_isTold, .int g_marks])), (ma 1, .inl (kc 0, 2880, .inl at0)), (ma 2, .inl (kc 1, 130, .inr (.inl z1)))] sz)) (va_Qv (fun (_ : Unit) => True) (wPost D [(ma 0, .inr (11, [.ref (ma 1), .ref (ma 2), .int g_status, .long g_top, .long g_bottom, .ref (ma 3), .ref (ma 4), .ref (ma 5), .ref (ma 6), .ref (ma 7), .int g_taped, .int g_size, .int g_token, .int g_from, .int g_end, .int g_value, .int g_faultKind, .int g_faultPlace, .int g_faults, .int g_seen, .int g_told0, .ref (ma 8), .int g_depth, .int g_counted, .int g_easy, .int g_ended, .int g_began, .int g_lastPrice, .ref (ma 9), .int g_drawn, .int g_ranSteps, .ref (ma 10), .ref (ma 11), .ref (ma 12), .int g_isTold, .int g_marks]))] (va_A [(ma 0, .inr (11, [.ref (ma 1), .ref (ma 2), .int g_status, .long g_top, .long g_bottom, .ref (ma 3), .ref (ma 4), .ref (ma 5), .ref (ma 6), .ref (ma 7), .int g_taped, .int g_size, .int g_token, .int g_from, .int g_end, .int g_value, .int g_faultKind, .int g_faultPlace, .int g_faults, .int g_seen, .int g_told0, .ref (ma 8), .int g_depth, .int g_counted, .int g_easy, .int g_ended, .int g_began, .int g_lastPrice, .ref (ma 9), .int g_drawn, .int g_ranSteps, .ref (ma 10), .ref (ma 11), .ref (ma 12), .int g_isTold, .int g_marks])), (ma 1, .inl (kc 0, 2880, .inl at0)), (ma 2, .inl (kc 1, 130, .inr (.inl z1)))] sz)) (va_A [(ma 0, .inr (11, [.ref (ma 1), .ref (ma 2), .int g_status, .long g_top, .long g_bottom, .ref (ma 3), .ref (ma 4), .ref (ma 5), .ref (ma 6), .ref (ma 7), .int g_taped, .int g_size, .int g_token, .int g_from, .int g_end, .int g_value, .int g_faultKind, .int g_faultPlace, .int g_faults, .int g_seen, .int g_told0, .ref (ma 8), .int g_depth, .int g_counted, .int g_easy, .int g_ended, .int g_began, .int g_lastPrice, .ref (ma 9), .int g_drawn, .int g_ranSteps, .ref (ma 10), .ref (ma 11), .ref (ma 12), .int g_isTold, .int g_marks])), (ma 1, .inl (kc 0, 2880, .inl at0)), (ma 2, .inl (kc 1, 130, .inr (.inl z1)))] sz)) 0 0 (va_A [(ma 0, .inr (11, [.ref (ma 1), .ref (ma 2), .int g_status, .long g_top, .long g_bottom, .ref (ma 3), .ref (ma 4), .ref (ma 5), .ref (ma 6), .ref (ma 7), .int g_taped, .int g_size, .int g_token, .int g_from, .int g_end, .int g_value, .int g_faultKind, .int g_faultPlace, .int g_faults, .int g_seen, .int g_told0, .ref (ma 8), .int g_depth, .int g_counted, .int g_easy, .int g_ended, .int g_began, .int g_lastPrice, .ref (ma 9), .int g_drawn, .int g_ranSteps, .ref (ma 10), .ref (ma 11), .ref (ma 12), .int g_isTold, .int g_marks])), (ma 1, .inl (kc 0, 2880, .inl at0)), (ma 2, .inl (kc 1, 130, .inr (.inl z1)))] sz) := by
  refine Met.ofW (cc := cX12_copies) (maxL := 4) (ret := none) (by decide) rfl ?_
  intro p e s m args below meth c s₁ B hml hv
  obtain ⟨rfl, hsz, hP, hE, hD0⟩ := hv
  have hx := B.exec
  have hb := B.bytes
  have hr := B.returns
  have hts := atoms_spec (ws := vm_copies) B.pre
  have hown : s.vm.findClass RX12 = some m.cls := findClass_of_methodNamed B.named
  have hlocks := B.notSynchronized
  subst hsz
  have hD := hD0.self (sz := s.heap.size)
  generalize hAe : va_A [(ma 0, .inr (11, [.ref (ma 1), .ref (ma 2), .int g_status, .long g_top, .long g_bottom, .ref (ma 3), .ref (ma 4), .ref (ma 5), .ref (ma 6), .ref (ma 7), .int g_taped, .int g_size, .int g_token, .int g_from, .int g_end, .int g_value, .int g_faultKind, .int g_faultPlace, .int g_faults, .int g_seen, .int g_told0, .ref (ma 8), .int g_depth, .int g_counted, .int g_easy, .int g_ended, .int g_began, .int g_lastPrice, .ref (ma 9), .int g_drawn, .int g_ranSteps, .ref (ma 10), .ref (ma 11), .ref (ma 12), .int g_isTold, .int g_marks])), (ma 1, .inl (kc 0, 2880, .inl at0)), (ma 2, .inl (kc 1, 130, .inr (.inl z1)))] s.heap.size = A at hD ⊢
  have hA : ∀ q : Nat, s.heap.size ≤ q → A q := fun q h => by rw [← hAe]; exact Or.inr h
  have hS : va_S A s.heap s.heap [] := va_S.rf
  have hK := hE.1
  have hP : va_P D vwCl [(ma 0, .inr (11, [.ref (ma 1), .ref (ma 2), .int g_status, .long g_top, .long g_bottom, .ref (ma 3), .ref (ma 4), .ref (ma 5), .ref (ma 6), .ref (ma 7), .int g_taped, .int g_size, .int g_token, .int g_from, .int g_end, .int g_value, .int g_faultKind, .int g_faultPlace, .int g_faults, .int g_seen, .int g_told0, .ref (ma 8), .int g_depth, .int g_counted, .int g_easy, .int g_ended, .int g_began, .int g_lastPrice, .ref (ma 9), .int g_drawn, .int g_ranSteps, .ref (ma 10), .ref (ma 11), .ref (ma 12), .int g_isTold, .int g_marks])), (ma 1, .inl (kc 0, 2880, .inl at0)), (ma 2, .inl (kc 1, 130, .inr (.inl z1)))] s.heap := hP
  have hl := lv_entry ([.ref (ma 0), .int 0, .int 1]) (n := 4) (Nat.le_of_ble_eq_true rfl)
  rw [lg_entry_eq]
  generalize (lg_sl ([.ref (ma 0), .int 0, .int 1]) ++ List.replicate (4 - (lg_sl ([.ref (ma 0), .int 0, .int 1])).length) Slot.unset).toArray = ls at hl ⊢
  have hl : lv_has ls 4 [(0, .ref (ma 0)), (1, .int 0), (2, .int 1)] := hl
  refine lv_iconst (v := 0) hx hb dX12_copies_0 (by decide) ?_
  refine lv_istore_n (lv' := [(3, .int 0), (0, .ref (ma 0)), (1, .int 0), (2, .int 1)]) hx hb dX12_copies_1 rfl hl (by decide) rfl (fun ls hl => ?_)
  refine lp_copA_12 ma g_status g_top g_bottom g_taped g_size g_token g_from g_end g_value g_faultKind g_faultPlace g_faults g_seen g_told0 g_depth g_counted g_easy g_ended g_began g_lastPrice g_drawn g_ranSteps g_isTold g_marks hx hb hml hown hts hE (fun f9_2 H locs ls hI2 hP hD hS hl => ?_) (480 + 1) 0 (Nat.zero_le _) (by omega) at0 _ _ ls (trivial) hP hD hS (lv_sub hl [0, 1, 2, 3] rfl)
  refine lv_iconst (v := 0) hx hb dX12_copies_39 (by decide) ?_
  refine lv_istore_n (lv' := [(3, .int 0), (0, .ref (ma 0)), (1, .int 0), (2, .int 1)]) hx hb dX12_copies_40 rfl hl (by decide) rfl (fun ls hl => ?_)
  refine lp_copB_13 ma g_status g_top g_bottom g_taped g_size g_token g_from g_end g_value g_faultKind g_faultPlace g_faults g_seen g_told0 g_depth g_counted g_easy g_ended g_began g_lastPrice g_drawn g_ranSteps g_isTold g_marks f9_2 hx hb hml hown hts hE (fun H locs ls hI41 hP hD hS hl => ?_) (24 + 1) 0 (Nat.zero_le _) (by omega) _ _ ls (trivial) hP hD hS (lv_sub hl [0, 1, 2, 3] rfl)
  have hP9 := hP.sub (ws' := [(ma 0, .inr (11, [.ref (ma 1), .ref (ma 2), .int g_status, .long g_top, .long g_bottom, .ref (ma 3), .ref (ma 4), .ref (ma 5), .ref (ma 6), .ref (ma 7), .int g_taped, .int g_size, .int g_token, .int g_from, .int g_end, .int g_value, .int g_faultKind, .int g_faultPlace, .int g_faults, .int g_seen, .int g_told0, .ref (ma 8), .int g_depth, .int g_counted, .int g_easy, .int g_ended, .int g_began, .int g_lastPrice, .ref (ma 9), .int g_drawn, .int g_ranSteps, .ref (ma 10), .ref (ma 11), .ref (ma 12), .int g_isTold, .int g_marks]))]) [0] rfl
  have hD9 := hD.sub (ws' := [(ma 0, .inr (11, [.ref (ma 1), .ref (ma 2), .int g_status, .long g_top, .long g_bottom, .ref (ma 3), .ref (ma 4), .ref (ma 5), .ref (ma 6), .ref (ma 7), .int g_taped, .int g_size, .int g_token, .int g_from, .int g_end, .int g_value, .int g_faultKind, .int g_faultPlace, .int g_faults, .int g_seen, .int g_told0, .ref (ma 8), .int g_depth, .int g_counted, .int g_easy, .int g_ended, .int g_began, .int g_lastPrice, .ref (ma 9), .int g_drawn, .int g_ranSteps, .ref (ma 10), .ref (ma 11), .ref (ma 12), .int g_isTold, .int g_marks]))]) [0] (by decide) rfl
  exact W.vret hx hb hr (fun t9 ht hW => ⟨⟨(), rfl, trivial, ⟨by rw [ht]; exact hP9, hD9⟩⟩, hS.F ht⟩) hS.2.2 dX12_copies_75
theorem dX12_mark_0 : decode cX12_mark 0 = .ok (.aload_n 0, 1) := by decide +kernel
theorem dX12_mark_1 : decode cX12_mark 1 = .ok (.getfield 421, 3) := by decide +kernel
theorem dX12_mark_4 : decode cX12_mark 4 = .ok (.iconst 3, 1) := by decide +kernel
theorem dX12_mark_5 : decode cX12_mark 5 = .ok (.if_icmp .ne 9, 3) := by decide +kernel
theorem dX12_mark_14 : decode cX12_mark 14 = .ok (.aload_n 0, 1) := by decide +kernel
theorem dX12_mark_15 : decode cX12_mark 15 = .ok (.dup, 1) := by decide +kernel
theorem dX12_mark_16 : decode cX12_mark 16 = .ok (.getfield 421, 3) := by decide +kernel
theorem dX12_mark_19 : decode cX12_mark 19 = .ok (.iconst 1, 1) := by decide +kernel
theorem dX12_mark_20 : decode cX12_mark 20 = .ok (.iadd, 1) := by decide +kernel
theorem dX12_mark_21 : decode cX12_mark 21 = .ok (.putfield 421, 3) := by decide +kernel
theorem dX12_mark_24 : decode cX12_mark 24 = .ok (.aload_n 0, 1) := by decide +kernel
theorem dX12_mark_25 : decode cX12_mark 25 = .ok (.iconst 0, 1) := by decide +kernel
theorem dX12_mark_26 : decode cX12_mark 26 = .ok (.aload_n 0, 1) := by decide +kernel
theorem dX12_mark_27 : decode cX12_mark 27 = .ok (.getfield 421, 3) := by decide +kernel
theorem dX12_mark_30 : decode cX12_mark 30 = .ok (.invokevirtual 424, 3) := by decide +kernel
theorem dX12_mark_33 : decode cX12_mark 33 = .ok (.aload_n 0, 1) := by decide +kernel
theorem dX12_mark_34 : decode cX12_mark 34 = .ok (.aload_n 0, 1) := by decide +kernel
theorem dX12_mark_35 : decode cX12_mark 35 = .ok (.getfield 421, 3) := by decide +kernel
theorem dX12_mark_38 : decode cX12_mark 38 = .ok (.invokevirtual 76, 3) := by decide +kernel
theorem dX12_mark_41 : decode cX12_mark 41 = .ok (.ireturn, 1) := by decide +kernel
def vdq_mark : List Cond := [.code yX12_mark cX12_mark 1 (some .int), .fieldLink RX12 421 "SaltStreetModel" "marks" "I", .methodLink RX12 424 yX12_copies, .code yX12_copies cX12_copies 4 none, .fieldLink RX12 7 "SaltStreetModel" "at" "[I", .fieldLink RX12 13 "SaltStreetModel" "names" "[J", .instanceMethod yX12_copies, .selects RX12 yX12_copies yX12_copies, .initialized RX12, .methodLink RX12 76 yX12_gives, .code yX12_gives cX12_gives 2 (some .int), .fieldLink RX12 66 "SaltStreetModel" "status" "I", .instanceMethod yX12_gives, .selects RX12 yX12_gives yX12_gives]
def vq_mark : List Cond := vdq_mark ++ (wsX120 ++ ([] : List Cond))
theorem iq_mark_X12 : ∀ w ∈ wsX120, w ∈ vq_mark := fun _ h => List.mem_append_right _ (List.mem_append_left _ h)
set_option maxRecDepth 20000 in
theorem gq_mark_424_m_copies : GoodIn vq_mark (wsV RX12 424 RX12 yX12_copies vm_copies) := (goodIn_app (goodIn_r _ [2, 6, 7, 8] rfl (by decide +kernel)) (goodIn_app (goodIn_r vdm_copies [3, 4, 5] rfl (by decide +kernel)) (goodIn_app (goodIn_sub iq_mark_X12 gdX12) goodIn_nil)))
set_option maxRecDepth 20000 in
theorem gq_mark_76_m_gives : GoodIn vq_mark (wsV RX12 76 RX12 yX12_gives vm_gives) := (goodIn_app (goodIn_r _ [9, 12, 13, 8] rfl (by decide +kernel)) (goodIn_app (goodIn_r vdm_gives [10, 11] rfl (by decide +kernel)) (goodIn_app (goodIn_sub iq_mark_X12 gdX12) goodIn_nil)))
set_option maxHeartbeats 4000000 in
set_option maxRecDepth 100000 in
theorem q_mark (l : Launch) (D : va_G) (kc : Nat → ClassId) (sz : Nat) (ma : Nat → Nat) : Met l yX12_mark vq_mark ({ frames := 1, cells := 0, slots := 0, locals := 23 }) (va_Pc [.ref (ma 0)] (wPre D kc [(ma 0, .inr (11, [.ref (ma 1), .ref (ma 2), .int 0, .long 0, .long 1, .ref (ma 3), .ref (ma 4), .ref (ma 5), .ref (ma 6), .ref (ma 7), .int 0, .int 0, .int 0, .int 0, .int 0, .int 0, .int (-1), .int (-1), .int 0, .int 0, .int 0, .ref (ma 8), .int 0, .int 0, .int (-1), .int 0, .int 0, .int 0, .ref (ma 9), .int 0, .int 0, .ref (ma 10), .ref (ma 11), .ref (ma 12), .int 0, .int 0])), (ma 1, .inl (kc 0, 2880, .inl at0)), (ma 2, .inl (kc 1, 130, .inr (.inl z1)))] sz)) (va_Qi (fun (r : Int32) (_ : Unit) => r = 1) wAny (va_A [(ma 0, .inr (11, [.ref (ma 1), .ref (ma 2), .int 0, .long 0, .long 1, .ref (ma 3), .ref (ma 4), .ref (ma 5), .ref (ma 6), .ref (ma 7), .int 0, .int 0, .int 0, .int 0, .int 0, .int 0, .int (-1), .int (-1), .int 0, .int 0, .int 0, .ref (ma 8), .int 0, .int 0, .int (-1), .int 0, .int 0, .int 0, .ref (ma 9), .int 0, .int 0, .ref (ma 10), .ref (ma 11), .ref (ma 12), .int 0, .int 0])), (ma 1, .inl (kc 0, 2880, .inl at0)), (ma 2, .inl (kc 1, 130, .inr (.inl z1)))] sz)) 0 0 (va_A [(ma 0, .inr (11, [.ref (ma 1), .ref (ma 2), .int 0, .long 0, .long 1, .ref (ma 3), .ref (ma 4), .ref (ma 5), .ref (ma 6), .ref (ma 7), .int 0, .int 0, .int 0, .int 0, .int 0, .int 0, .int (-1), .int (-1), .int 0, .int 0, .int 0, .ref (ma 8), .int 0, .int 0, .int (-1), .int 0, .int 0, .int 0, .ref (ma 9), .int 0, .int 0, .ref (ma 10), .ref (ma 11), .ref (ma 12), .int 0, .int 0])), (ma 1, .inl (kc 0, 2880, .inl at0)), (ma 2, .inl (kc 1, 130, .inr (.inl z1)))] sz) := by
  refine Met.ofW (cc := cX12_mark) (maxL := 1) (ret := (some .int)) (by decide) rfl ?_
  intro p e s m args below meth c s₁ B hml hv
  obtain ⟨rfl, hsz, hP, hE, hD0⟩ := hv
  have hx := B.exec
  have hb := B.bytes
  have hr := B.returns
  have hts := atoms_spec (ws := vq_mark) B.pre
  have hown : s.vm.findClass RX12 = some m.cls := findClass_of_methodNamed B.named
  have hlocks := B.notSynchronized
  subst hsz
  have hD := hD0.self (sz := s.heap.size)
  generalize hAe : va_A [(ma 0, .inr (11, [.ref (ma 1), .ref (ma 2), .int 0, .long 0, .long 1, .ref (ma 3), .ref (ma 4), .ref (ma 5), .ref (ma 6), .ref (ma 7), .int 0, .int 0, .int 0, .int 0, .int 0, .int 0, .int (-1), .int (-1), .int 0, .int 0, .int 0, .ref (ma 8), .int 0, .int 0, .int (-1), .int 0, .int 0, .int 0, .ref (ma 9), .int 0, .int 0, .ref (ma 10), .ref (ma 11), .ref (ma 12), .int 0, .int 0])), (ma 1, .inl (kc 0, 2880, .inl at0)), (ma 2, .inl (kc 1, 130, .inr (.inl z1)))] s.heap.size = A at hD ⊢
  have hA : ∀ q : Nat, s.heap.size ≤ q → A q := fun q h => by rw [← hAe]; exact Or.inr h
  have hS : va_S A s.heap s.heap [] := va_S.rf
  have hK := hE.1
  have hP : va_P D vwCl [(ma 0, .inr (11, [.ref (ma 1), .ref (ma 2), .int 0, .long 0, .long 1, .ref (ma 3), .ref (ma 4), .ref (ma 5), .ref (ma 6), .ref (ma 7), .int 0, .int 0, .int 0, .int 0, .int 0, .int 0, .int (-1), .int (-1), .int 0, .int 0, .int 0, .ref (ma 8), .int 0, .int 0, .int (-1), .int 0, .int 0, .int 0, .ref (ma 9), .int 0, .int 0, .ref (ma 10), .ref (ma 11), .ref (ma 12), .int 0, .int 0])), (ma 1, .inl (kc 0, 2880, .inl at0)), (ma 2, .inl (kc 1, 130, .inr (.inl z1)))] s.heap := hP
  have hl := lv_entry ([.ref (ma 0)]) (n := 1) (Nat.le_of_ble_eq_true rfl)
  rw [lg_entry_eq]
  generalize (lg_sl ([.ref (ma 0)]) ++ List.replicate (1 - (lg_sl ([.ref (ma 0)])).length) Slot.unset).toArray = ls at hl ⊢
  have hl : lv_has ls 1 [(0, .ref (ma 0))] := hl
  refine lv_aload_n hx hb dX12_mark_0 rfl (lv_at hl 0 rfl) ?_
  refine va_get (D := D) (ci := 11) (v := .int 0) (C := RX12) (T := TX12) (N := 36) hx hb hts iq_mark_X12 hown hK hP 0 rfl rfl 35 (by decide) (hts (.fieldLink RX12 421 "SaltStreetModel" "marks" "I") (List.mem_of_getElem? (i := 1) rfl)) (fun _ h9 => h9) rfl dX12_mark_1 ?_
  refine lv_iconst (v := 3) hx hb dX12_mark_4 (by decide) ?_
  refine lv_icmp_ne (tgt := 14) hx hb dX12_mark_5 (by decide) (fun _ => ?_) (fun h => absurd h (by decide))
  refine lv_aload_n hx hb dX12_mark_14 rfl (lv_at hl 0 rfl) ?_
  refine lv_dup hx hb dX12_mark_15 rfl ?_
  refine va_get (D := D) (ci := 11) (v := .int 0) (C := RX12) (T := TX12) (N := 36) hx hb hts iq_mark_X12 hown hK hP 0 rfl rfl 35 (by decide) (hts (.fieldLink RX12 421 "SaltStreetModel" "marks" "I") (List.mem_of_getElem? (i := 1) rfl)) (fun _ h9 => h9) rfl dX12_mark_16 ?_
  refine lv_iconst (v := 1) hx hb dX12_mark_19 (by decide) ?_
  refine lv_iadd hx hb dX12_mark_20 ?_
  refine lv_ci (y := 1) (by decide) ?_
  refine va_put (D := D) (ci := 11) (v := .int 1) (ty := .int) (C := RX12) (T := TX12) (N := 36) hx hb hts iq_mark_X12 tyX12 tyX12_ok nmX12 hown hK hP hD hS 0 rfl rfl 35 (by decide) (hts (.fieldLink RX12 421 "SaltStreetModel" "marks" "I") (List.mem_of_getElem? (i := 1) rfl)) (fun _ h9 => h9) rfl (by decide +kernel) rfl rfl (Nat.le_of_ble_eq_true rfl) dX12_mark_21 (fun H locs hP hD hS => ?_)
  have hP : va_P D vwCl [(ma 0, .inr (11, [.ref (ma 1), .ref (ma 2), .int 0, .long 0, .long 1, .ref (ma 3), .ref (ma 4), .ref (ma 5), .ref (ma 6), .ref (ma 7), .int 0, .int 0, .int 0, .int 0, .int 0, .int 0, .int (-1), .int (-1), .int 0, .int 0, .int 0, .ref (ma 8), .int 0, .int 0, .int (-1), .int 0, .int 0, .int 0, .ref (ma 9), .int 0, .int 0, .ref (ma 10), .ref (ma 11), .ref (ma 12), .int 0, .int 1])), (ma 1, .inl (kc 0, 2880, .inl at0)), (ma 2, .inl (kc 1, 130, .inr (.inl z1)))] H := hP
  have hD : va_D A [(ma 0, .inr (11, [.ref (ma 1), .ref (ma 2), .int 0, .long 0, .long 1, .ref (ma 3), .ref (ma 4), .ref (ma 5), .ref (ma 6), .ref (ma 7), .int 0, .int 0, .int 0, .int 0, .int 0, .int 0, .int (-1), .int (-1), .int 0, .int 0, .int 0, .ref (ma 8), .int 0, .int 0, .int (-1), .int 0, .int 0, .int 0, .ref (ma 9), .int 0, .int 0, .ref (ma 10), .ref (ma 11), .ref (ma 12), .int 0, .int 1])), (ma 1, .inl (kc 0, 2880, .inl at0)), (ma 2, .inl (kc 1, 130, .inr (.inl z1)))] := hD
  refine lv_aload_n hx hb dX12_mark_24 rfl (lv_at hl 0 rfl) ?_
  refine lv_iconst (v := 0) hx hb dX12_mark_25 (by decide) ?_
  refine lv_aload_n hx hb dX12_mark_26 rfl (lv_at hl 0 rfl) ?_
  refine va_get (D := D) (ci := 11) (v := .int 1) (C := RX12) (T := TX12) (N := 36) hx hb hts iq_mark_X12 hown hK hP 0 rfl rfl 35 (by decide) (hts (.fieldLink RX12 421 "SaltStreetModel" "marks" "I") (List.mem_of_getElem? (i := 1) rfl)) (fun _ h9 => h9) rfl dX12_mark_27 ?_
  have hPc := hP.sub (ws' := [(ma 0, .inr (11, [.ref (ma 1), .ref (ma 2), .int 0, .long 0, .long 1, .ref (ma 3), .ref (ma 4), .ref (ma 5), .ref (ma 6), .ref (ma 7), .int 0, .int 0, .int 0, .int 0, .int 0, .int 0, .int (-1), .int (-1), .int 0, .int 0, .int 0, .ref (ma 8), .int 0, .int 0, .int (-1), .int 0, .int 0, .int 0, .ref (ma 9), .int 0, .int 0, .ref (ma 10), .ref (ma 11), .ref (ma 12), .int 0, .int 1])), (ma 1, .inl (kc 0, 2880, .inl at0)), (ma 2, .inl (kc 1, 130, .inr (.inl z1)))]) [0, 1, 2] rfl
  have hDc := hD.sub (ws' := [(ma 0, .inr (11, [.ref (ma 1), .ref (ma 2), .int 0, .long 0, .long 1, .ref (ma 3), .ref (ma 4), .ref (ma 5), .ref (ma 6), .ref (ma 7), .int 0, .int 0, .int 0, .int 0, .int 0, .int 0, .int (-1), .int (-1), .int 0, .int 0, .int 0, .ref (ma 8), .int 0, .int 0, .int (-1), .int 0, .int 0, .int 0, .ref (ma 9), .int 0, .int 0, .ref (ma 10), .ref (ma 11), .ref (ma 12), .int 0, .int 1])), (ma 1, .inl (kc 0, 2880, .inl at0)), (ma 2, .inl (kc 1, 130, .inr (.inl z1)))]) [0, 1, 2] (by decide) rfl
  have hFc := va_free (wc := [(ma 0, .inr (11, [.ref (ma 1), .ref (ma 2), .int 0, .long 0, .long 1, .ref (ma 3), .ref (ma 4), .ref (ma 5), .ref (ma 6), .ref (ma 7), .int 0, .int 0, .int 0, .int 0, .int 0, .int 0, .int (-1), .int (-1), .int 0, .int 0, .int 0, .ref (ma 8), .int 0, .int 0, .int (-1), .int 0, .int 0, .int 0, .ref (ma 9), .int 0, .int 0, .ref (ma 10), .ref (ma 11), .ref (ma 12), .int 0, .int 1])), (ma 1, .inl (kc 0, 2880, .inl at0)), (ma 2, .inl (kc 1, 130, .inr (.inl z1)))]) hD hS hA [0, 1, 2] rfl
  refine va_callv (va_runV (As := [.int 0, .int 1]) (rest := []) ⟨hx, hb, hml, hown, hts⟩ (m_copies l D kc H.size ma 0 0 1 0 0 0 0 0 0 (-1) (-1) 0 0 0 0 0 (-1) 0 0 0 0 0 0 1) (cwV 2 hts gq_mark_424_m_copies rfl rfl rfl (by decide +kernel) ⟨Nat.le_of_ble_eq_true rfl, Nat.le_of_ble_eq_true rfl⟩) (preV_ok hPc hDc hE (ci := 11) (q0 := 0) rfl rfl) rfl rfl hl.1 rfl (lv_room (Nat.le_of_ble_eq_true rfl)) dX12_mark_30 ⟨Nat.le_of_ble_eq_true rfl, Nat.le_of_ble_eq_true rfl⟩) hS (fun q _ h => hFc q h) hFc (fun u9 t9 H locs ht hvm hw hB hz1 hk1 hS => ?_)
  obtain ⟨hP1, hD1⟩ := hB
  rw [ht] at hP1
  obtain ⟨hP, hD⟩ := va_join (wr := []) (w1 := [(ma 0, .inr (11, [.ref (ma 1), .ref (ma 2), .int 0, .long 0, .long 1, .ref (ma 3), .ref (ma 4), .ref (ma 5), .ref (ma 6), .ref (ma 7), .int 0, .int 0, .int 0, .int 0, .int 0, .int 0, .int (-1), .int (-1), .int 0, .int 0, .int 0, .ref (ma 8), .int 0, .int 0, .int (-1), .int 0, .int 0, .int 0, .ref (ma 9), .int 0, .int 0, .ref (ma 10), .ref (ma 11), .ref (ma 12), .int 0, .int 1]))]) hP hD [0, 1, 2] [] rfl rfl (by decide) (by decide) hk1 hFc hP1 hD1
  have hP : va_P D vwCl [(ma 0, .inr (11, [.ref (ma 1), .ref (ma 2), .int 0, .long 0, .long 1, .ref (ma 3), .ref (ma 4), .ref (ma 5), .ref (ma 6), .ref (ma 7), .int 0, .int 0, .int 0, .int 0, .int 0, .int 0, .int (-1), .int (-1), .int 0, .int 0, .int 0, .ref (ma 8), .int 0, .int 0, .int (-1), .int 0, .int 0, .int 0, .ref (ma 9), .int 0, .int 0, .ref (ma 10), .ref (ma 11), .ref (ma 12), .int 0, .int 1]))] H := hP
  have hD : va_D A [(ma 0, .inr (11, [.ref (ma 1), .ref (ma 2), .int 0, .long 0, .long 1, .ref (ma 3), .ref (ma 4), .ref (ma 5), .ref (ma 6), .ref (ma 7), .int 0, .int 0, .int 0, .int 0, .int 0, .int 0, .int (-1), .int (-1), .int 0, .int 0, .int 0, .ref (ma 8), .int 0, .int 0, .int (-1), .int 0, .int 0, .int 0, .ref (ma 9), .int 0, .int 0, .ref (ma 10), .ref (ma 11), .ref (ma 12), .int 0, .int 1]))] := hD
  refine lv_aload_n hx hb dX12_mark_33 rfl (lv_at hl 0 rfl) ?_
  refine lv_aload_n hx hb dX12_mark_34 rfl (lv_at hl 0 rfl) ?_
  refine va_get (D := D) (ci := 11) (v := .int 1) (C := RX12) (T := TX12) (N := 36) hx hb hts iq_mark_X12 hown hK hP 0 rfl rfl 35 (by decide) (hts (.fieldLink RX12 421 "SaltStreetModel" "marks" "I") (List.mem_of_getElem? (i := 1) rfl)) (fun _ h9 => h9) rfl dX12_mark_35 ?_
  have hPc := hP.sub (ws' := [(ma 0, .inr (11, [.ref (ma 1), .ref (ma 2), .int 0, .long 0, .long 1, .ref (ma 3), .ref (ma 4), .ref (ma 5), .ref (ma 6), .ref (ma 7), .int 0, .int 0, .int 0, .int 0, .int 0, .int 0, .int (-1), .int (-1), .int 0, .int 0, .int 0, .ref (ma 8), .int 0, .int 0, .int (-1), .int 0, .int 0, .int 0, .ref (ma 9), .int 0, .int 0, .ref (ma 10), .ref (ma 11), .ref (ma 12), .int 0, .int 1]))]) [0] rfl
  have hDc := hD.sub (ws' := [(ma 0, .inr (11, [.ref (ma 1), .ref (ma 2), .int 0, .long 0, .long 1, .ref (ma 3), .ref (ma 4), .ref (ma 5), .ref (ma 6), .ref (ma 7), .int 0, .int 0, .int 0, .int 0, .int 0, .int 0, .int (-1), .int (-1), .int 0, .int 0, .int 0, .ref (ma 8), .int 0, .int 0, .int (-1), .int 0, .int 0, .int 0, .ref (ma 9), .int 0, .int 0, .ref (ma 10), .ref (ma 11), .ref (ma 12), .int 0, .int 1]))]) [0] (by decide) rfl
  have hFc := va_free (wc := [(ma 0, .inr (11, [.ref (ma 1), .ref (ma 2), .int 0, .long 0, .long 1, .ref (ma 3), .ref (ma 4), .ref (ma 5), .ref (ma 6), .ref (ma 7), .int 0, .int 0, .int 0, .int 0, .int 0, .int 0, .int (-1), .int (-1), .int 0, .int 0, .int 0, .ref (ma 8), .int 0, .int 0, .int (-1), .int 0, .int 0, .int 0, .ref (ma 9), .int 0, .int 0, .ref (ma 10), .ref (ma 11), .ref (ma 12), .int 0, .int 1]))]) hD hS hA [0] rfl
  refine va_calli (va_runV (As := [.int 1]) (rest := []) ⟨hx, hb, hml, hown, hts⟩ (m_gives l D kc H.size ma 0 0 1 0 0 0 0 0 0 (-1) (-1) 0 0 0 0 0 (-1) 0 0 0 0 0 0 1 1) (cwV 1 hts gq_mark_76_m_gives rfl rfl rfl (by decide +kernel) ⟨Nat.le_of_ble_eq_true rfl, Nat.le_of_ble_eq_true rfl⟩) (preV_ok hPc hDc hE (ci := 11) (q0 := 0) rfl rfl) rfl rfl hl.1 rfl (lv_room (Nat.le_of_ble_eq_true rfl)) dX12_mark_38 ⟨Nat.le_of_ble_eq_true rfl, Nat.le_of_ble_eq_true rfl⟩) hS (fun q _ h => hFc q h) hFc (fun r_38 u9 t9 H locs ht hvm hw hB hz1 hk1 hS => ?_)
  obtain ⟨hP1, hD1⟩ := hB
  rw [ht] at hP1
  obtain ⟨hP, hD⟩ := va_join (wr := []) (w1 := [(ma 0, .inr (11, [.ref (ma 1), .ref (ma 2), .int 0, .long 0, .long 1, .ref (ma 3), .ref (ma 4), .ref (ma 5), .ref (ma 6), .ref (ma 7), .int 0, .int 0, .int 0, .int 0, .int 0, .int 0, .int (-1), .int (-1), .int 0, .int 0, .int 0, .ref (ma 8), .int 0, .int 0, .int (-1), .int 0, .int 0, .int 0, .ref (ma 9), .int 0, .int 0, .ref (ma 10), .ref (ma 11), .ref (ma 12), .int 0, .int 1]))]) hP hD [0] [] rfl rfl (by decide) (by decide) hk1 hFc hP1 hD1
  have hP : va_P D vwCl [(ma 0, .inr (11, [.ref (ma 1), .ref (ma 2), .int 0, .long 0, .long 1, .ref (ma 3), .ref (ma 4), .ref (ma 5), .ref (ma 6), .ref (ma 7), .int 0, .int 0, .int 0, .int 0, .int 0, .int 0, .int (-1), .int (-1), .int 0, .int 0, .int 0, .ref (ma 8), .int 0, .int 0, .int (-1), .int 0, .int 0, .int 0, .ref (ma 9), .int 0, .int 0, .ref (ma 10), .ref (ma 11), .ref (ma 12), .int 0, .int 1]))] H := hP
  have hD : va_D A [(ma 0, .inr (11, [.ref (ma 1), .ref (ma 2), .int 0, .long 0, .long 1, .ref (ma 3), .ref (ma 4), .ref (ma 5), .ref (ma 6), .ref (ma 7), .int 0, .int 0, .int 0, .int 0, .int 0, .int 0, .int (-1), .int (-1), .int 0, .int 0, .int 0, .ref (ma 8), .int 0, .int 0, .int (-1), .int 0, .int 0, .int 0, .ref (ma 9), .int 0, .int 0, .ref (ma 10), .ref (ma 11), .ref (ma 12), .int 0, .int 1]))] := hD
  subst hw
  exact W.iret (v := 1) hx hb hr (fun t9 ht hW => ⟨⟨1, (), rfl, rfl, trivial⟩, hS.F ht⟩) hS.2.2 dX12_mark_41
