theorem min900 {n : Nat} (h : n ≤ 900) : ∃ m, m ≤ 900 ∧ (if (900 : Int32) < nI n then (900 : Int32) else nI n) = nI m := by
  split
  · exact ⟨900, Nat.le_refl _, rfl⟩
  · exact ⟨n, h, rfl⟩
theorem groc_use {n i k : Nat} {w t : Nat → Int32} (hb : GrocOk n w t) (hi : i < n) (hn : n ≤ 24) (hw : w (nI i).toNatClampNeg = 112) (ht : t (nI i).toNatClampNeg = nI k) (hk : k < 8) : k < 4 := by
  rw [nI_clamp (by omega)] at hw ht
  obtain ⟨j, hj, e⟩ := hb i hi hw
  have := (nI_eq (a := k) (b := j) (by omega) (by omega)).mp (ht.symm.trans e)
  omega
theorem groc_add {n m : Nat} {x : Int32} {w t : Nat → Int32} (hb : GrocOk n w t) (hn : n < 24) (hx : x = 112 → m < 4) : GrocOk (n + 1) (upd w (nI n).toNatClampNeg x) (upd t (nI n).toNatClampNeg (nI m)) := by
  rw [nI_clamp (by omega)]
  intro i hi hw
  unfold upd at hw ⊢
  by_cases q : i = n
  · rw [if_pos q] at hw ⊢; exact ⟨m, hx hw, rfl⟩
  · rw [if_neg q] at hw ⊢; exact hb i (by omega) hw
theorem dX11_putOnTape_0 : decode cX11_putOnTape 0 = .ok (.bipush 24, 2) := by decide +kernel
theorem dX11_putOnTape_2 : decode cX11_putOnTape 2 = .ok (.istore_n 2, 1) := by decide +kernel
theorem dX11_putOnTape_3 : decode cX11_putOnTape 3 = .ok (.iload_n 2, 1) := by decide +kernel
theorem dX11_putOnTape_4 : decode cX11_putOnTape 4 = .ok (.ifCond .lt 45, 3) := by decide +kernel
theorem dX11_putOnTape_7 : decode cX11_putOnTape 7 = .ok (.aload_n 0, 1) := by decide +kernel
theorem dX11_putOnTape_8 : decode cX11_putOnTape 8 = .ok (.getfield 161, 3) := by decide +kernel
theorem dX11_putOnTape_11 : decode cX11_putOnTape 11 = .ok (.sipush 900, 3) := by decide +kernel
theorem dX11_putOnTape_14 : decode cX11_putOnTape 14 = .ok (.if_icmp .ge 29, 3) := by decide +kernel
theorem dX11_putOnTape_43 : decode cX11_putOnTape 43 = .ok (.iinc 2 (-8), 3) := by decide +kernel
theorem dX11_putOnTape_46 : decode cX11_putOnTape 46 = .ok (.goto (-43), 3) := by decide +kernel
theorem dX11_putOnTape_49 : decode cX11_putOnTape 49 = .ok (.return_, 1) := by decide +kernel
theorem dX11_putOnTape_17 : decode cX11_putOnTape 17 = .ok (.aload_n 0, 1) := by decide +kernel
theorem dX11_putOnTape_18 : decode cX11_putOnTape 18 = .ok (.getfield 9, 3) := by decide +kernel
theorem dX11_putOnTape_21 : decode cX11_putOnTape 21 = .ok (.aload_n 0, 1) := by decide +kernel
theorem dX11_putOnTape_22 : decode cX11_putOnTape 22 = .ok (.getfield 161, 3) := by decide +kernel
theorem dX11_putOnTape_25 : decode cX11_putOnTape 25 = .ok (.iload_n 1, 1) := by decide +kernel
theorem dX11_putOnTape_26 : decode cX11_putOnTape 26 = .ok (.iload_n 2, 1) := by decide +kernel
theorem dX11_putOnTape_27 : decode cX11_putOnTape 27 = .ok (.iushr, 1) := by decide +kernel
theorem dX11_putOnTape_28 : decode cX11_putOnTape 28 = .ok (.sipush 255, 3) := by decide +kernel
theorem dX11_putOnTape_31 : decode cX11_putOnTape 31 = .ok (.iand, 1) := by decide +kernel
theorem dX11_putOnTape_32 : decode cX11_putOnTape 32 = .ok (.iastore, 1) := by decide +kernel
theorem dX11_putOnTape_33 : decode cX11_putOnTape 33 = .ok (.aload_n 0, 1) := by decide +kernel
theorem dX11_putOnTape_34 : decode cX11_putOnTape 34 = .ok (.dup, 1) := by decide +kernel
theorem dX11_putOnTape_35 : decode cX11_putOnTape 35 = .ok (.getfield 161, 3) := by decide +kernel
theorem dX11_putOnTape_38 : decode cX11_putOnTape 38 = .ok (.iconst 1, 1) := by decide +kernel
theorem dX11_putOnTape_39 : decode cX11_putOnTape 39 = .ok (.iadd, 1) := by decide +kernel
theorem dX11_putOnTape_40 : decode cX11_putOnTape 40 = .ok (.putfield 161, 3) := by decide +kernel
def vds_put : List Cond := [.code yX11_putOnTape cX11_putOnTape 3 none, .fieldLink RX11 161 "SaltStreet" "onTape" "I", .fieldLink RX11 9 "SaltStreet" "tape" "[I"]
def vs_put : List Cond := vds_put ++ (wsX110 ++ ([] : List Cond))
theorem is_put_X11 : ∀ w ∈ wsX110, w ∈ vs_put := fun _ h => List.mem_append_right _ (List.mem_append_left _ h)
set_option maxHeartbeats 4000000 in
set_option maxRecDepth 100000 in
theorem s_put (l : Launch) (D : va_G) (kc : Nat → ClassId) (sz : Nat) (xa : Nat → Nat) (na : Nat → Nat) (pa : Nat → Nat) (sx_onTape : Nat) (sx_marked : Nat) (sx_status : Int32) (sx_top : Int64) (sx_bottom : Int64) (sx_fault : Int32) (sx_faultPlace : Int32) (tape : Nat → Int32) (a0 : Int32) (h_sx_onTape : sx_onTape ≤ 900) (h_sx_marked : sx_marked ≤ 3) : Met l yX11_putOnTape vs_put ({ frames := 0, cells := 0, slots := 0, locals := 0 }) (va_Pc [.ref (xa 0), .int a0] (wPre D kc [(xa 0, .inr (10, [.ref (xa 1), .ref (xa 2), .ref (na 0), .ref (pa 0), .ref (xa 3), .ref (na 1), .ref (na 2), .ref (xa 4), .ref (xa 5), .ref (xa 6), .ref (xa 7), .ref (xa 8), .ref (xa 9), .int (nI sx_onTape), .int (nI sx_marked), .int sx_status, .long sx_top, .long sx_bottom, .int sx_fault, .int sx_faultPlace])), (xa 1, .inl (kc 0, 900, .inl tape))] sz)) (va_Qv (fun (_ : Unit) => True) (fun (_ : Unit) (t9 : State) => ∃ sx_onTape_n : Nat, ∃ tape_n : Nat → Int32, sx_onTape_n ≤ 900 ∧ va_P D vwCl [(xa 0, .inr (10, [.ref (xa 1), .ref (xa 2), .ref (na 0), .ref (pa 0), .ref (xa 3), .ref (na 1), .ref (na 2), .ref (xa 4), .ref (xa 5), .ref (xa 6), .ref (xa 7), .ref (xa 8), .ref (xa 9), .int (nI sx_onTape_n), .int (nI sx_marked), .int sx_status, .long sx_top, .long sx_bottom, .int sx_fault, .int sx_faultPlace])), (xa 1, .inl (kc 0, 900, .inl tape_n))] t9.heap ∧ va_D (va_A [(xa 0, .inr (10, [.ref (xa 1), .ref (xa 2), .ref (na 0), .ref (pa 0), .ref (xa 3), .ref (na 1), .ref (na 2), .ref (xa 4), .ref (xa 5), .ref (xa 6), .ref (xa 7), .ref (xa 8), .ref (xa 9), .int (nI sx_onTape), .int (nI sx_marked), .int sx_status, .long sx_top, .long sx_bottom, .int sx_fault, .int sx_faultPlace])), (xa 1, .inl (kc 0, 900, .inl tape))] sz) [(xa 0, .inr (10, [.ref (xa 1), .ref (xa 2), .ref (na 0), .ref (pa 0), .ref (xa 3), .ref (na 1), .ref (na 2), .ref (xa 4), .ref (xa 5), .ref (xa 6), .ref (xa 7), .ref (xa 8), .ref (xa 9), .int (nI sx_onTape_n), .int (nI sx_marked), .int sx_status, .long sx_top, .long sx_bottom, .int sx_fault, .int sx_faultPlace])), (xa 1, .inl (kc 0, 900, .inl tape_n))]) (va_A [(xa 0, .inr (10, [.ref (xa 1), .ref (xa 2), .ref (na 0), .ref (pa 0), .ref (xa 3), .ref (na 1), .ref (na 2), .ref (xa 4), .ref (xa 5), .ref (xa 6), .ref (xa 7), .ref (xa 8), .ref (xa 9), .int (nI sx_onTape), .int (nI sx_marked), .int sx_status, .long sx_top, .long sx_bottom, .int sx_fault, .int sx_faultPlace])), (xa 1, .inl (kc 0, 900, .inl tape))] sz)) 0 0 (va_A [(xa 0, .inr (10, [.ref (xa 1), .ref (xa 2), .ref (na 0), .ref (pa 0), .ref (xa 3), .ref (na 1), .ref (na 2), .ref (xa 4), .ref (xa 5), .ref (xa 6), .ref (xa 7), .ref (xa 8), .ref (xa 9), .int (nI sx_onTape), .int (nI sx_marked), .int sx_status, .long sx_top, .long sx_bottom, .int sx_fault, .int sx_faultPlace])), (xa 1, .inl (kc 0, 900, .inl tape))] sz) := by
  refine Met.ofW (cc := cX11_putOnTape) (maxL := 3) (ret := none) (by decide) rfl ?_
  intro p e s m args below meth c s₁ B hml hv
  obtain ⟨rfl, hsz, hP, hE, hD0⟩ := hv
  have hx := B.exec
  have hb := B.bytes
  have hr := B.returns
  have hts := atoms_spec (ws := vs_put) B.pre
  have hown : s.vm.findClass RX11 = some m.cls := findClass_of_methodNamed B.named
  have hlocks := B.notSynchronized
  subst hsz
  have hD := hD0.self (sz := s.heap.size)
  generalize hAe : va_A [(xa 0, .inr (10, [.ref (xa 1), .ref (xa 2), .ref (na 0), .ref (pa 0), .ref (xa 3), .ref (na 1), .ref (na 2), .ref (xa 4), .ref (xa 5), .ref (xa 6), .ref (xa 7), .ref (xa 8), .ref (xa 9), .int (nI sx_onTape), .int (nI sx_marked), .int sx_status, .long sx_top, .long sx_bottom, .int sx_fault, .int sx_faultPlace])), (xa 1, .inl (kc 0, 900, .inl tape))] s.heap.size = A at hD ⊢
  have hA : ∀ q : Nat, s.heap.size ≤ q → A q := fun q h => by rw [← hAe]; exact Or.inr h
  have hS : va_S A s.heap s.heap [] := va_S.rf
  have hK := hE.1
  have hP : va_P D vwCl [(xa 0, .inr (10, [.ref (xa 1), .ref (xa 2), .ref (na 0), .ref (pa 0), .ref (xa 3), .ref (na 1), .ref (na 2), .ref (xa 4), .ref (xa 5), .ref (xa 6), .ref (xa 7), .ref (xa 8), .ref (xa 9), .int (nI sx_onTape), .int (nI sx_marked), .int sx_status, .long sx_top, .long sx_bottom, .int sx_fault, .int sx_faultPlace])), (xa 1, .inl (kc 0, 900, .inl tape))] s.heap := hP
  have hl := lv_entry ([.ref (xa 0), .int a0]) (n := 3) (Nat.le_of_ble_eq_true rfl)
  rw [lg_entry_eq]
  generalize (lg_sl ([.ref (xa 0), .int a0]) ++ List.replicate (3 - (lg_sl ([.ref (xa 0), .int a0])).length) Slot.unset).toArray = ls at hl ⊢
  have hl : lv_has ls 3 [(0, .ref (xa 0)), (1, .int a0)] := hl
  refine lv_bipush (v := 24) hx hb dX11_putOnTape_0 (by decide) ?_
  refine lv_istore_n (lv' := [(2, .int 24), (0, .ref (xa 0)), (1, .int a0)]) hx hb dX11_putOnTape_2 rfl hl (by decide) rfl (fun ls hl => ?_)
  refine lv_iload_n hx hb dX11_putOnTape_3 rfl (lv_at hl 0 rfl) ?_
  refine lv_if_lt (tgt := 49) hx hb dX11_putOnTape_4 (by decide) (fun h => absurd h (by decide)) (fun _ => ?_)
  refine lv_aload_n hx hb dX11_putOnTape_7 rfl (lv_at hl 1 rfl) ?_
  refine va_get (D := D) (ci := 10) (v := .int (nI sx_onTape)) (C := RX11) (T := TX11) (N := 20) hx hb hts is_put_X11 hown hK hP 0 rfl rfl 13 (by decide) (hts (.fieldLink RX11 161 "SaltStreet" "onTape" "I") (List.mem_of_getElem? (i := 1) rfl)) (fun _ h9 => h9) rfl dX11_putOnTape_8 ?_
  refine lv_sipush (v := 900) hx hb dX11_putOnTape_11 (by decide) ?_
  refine lv_icmp_ge (tgt := 43) hx hb dX11_putOnTape_14 (by decide) (fun c1 => ?_) (fun c1 => ?_)
  · have nc1 := (nI_leI (a := 900) (b := sx_onTape) (by omega) (by omega)).mp c1
    refine lv_iinc (v := 16) (lv' := [(2, .int 16), (0, .ref (xa 0)), (1, .int a0)]) hx hb dX11_putOnTape_43 hl (k := 0) rfl (by decide) (by decide) rfl (fun ls hl => ?_)
    refine lv_goto (tgt := 3) hx hb dX11_putOnTape_46 (by decide) ?_
    refine lv_iload_n hx hb dX11_putOnTape_3 rfl (lv_at hl 0 rfl) ?_
    refine lv_if_lt (tgt := 49) hx hb dX11_putOnTape_4 (by decide) (fun h => absurd h (by decide)) (fun _ => ?_)
    refine lv_aload_n hx hb dX11_putOnTape_7 rfl (lv_at hl 1 rfl) ?_
    refine va_get (D := D) (ci := 10) (v := .int (nI sx_onTape)) (C := RX11) (T := TX11) (N := 20) hx hb hts is_put_X11 hown hK hP 0 rfl rfl 13 (by decide) (hts (.fieldLink RX11 161 "SaltStreet" "onTape" "I") (List.mem_of_getElem? (i := 1) rfl)) (fun _ h9 => h9) rfl dX11_putOnTape_8 ?_
    refine lv_sipush (v := 900) hx hb dX11_putOnTape_11 (by decide) ?_
    refine lv_icmp_ge (tgt := 43) hx hb dX11_putOnTape_14 (by decide) (fun c2 => ?_) (fun c2 => ?_)
    · have nc2 := (nI_leI (a := 900) (b := sx_onTape) (by omega) (by omega)).mp c2
      refine lv_iinc (v := 8) (lv' := [(2, .int 8), (0, .ref (xa 0)), (1, .int a0)]) hx hb dX11_putOnTape_43 hl (k := 0) rfl (by decide) (by decide) rfl (fun ls hl => ?_)
      refine lv_goto (tgt := 3) hx hb dX11_putOnTape_46 (by decide) ?_
      refine lv_iload_n hx hb dX11_putOnTape_3 rfl (lv_at hl 0 rfl) ?_
      refine lv_if_lt (tgt := 49) hx hb dX11_putOnTape_4 (by decide) (fun h => absurd h (by decide)) (fun _ => ?_)
      refine lv_aload_n hx hb dX11_putOnTape_7 rfl (lv_at hl 1 rfl) ?_
      refine va_get (D := D) (ci := 10) (v := .int (nI sx_onTape)) (C := RX11) (T := TX11) (N := 20) hx hb hts is_put_X11 hown hK hP 0 rfl rfl 13 (by decide) (hts (.fieldLink RX11 161 "SaltStreet" "onTape" "I") (List.mem_of_getElem? (i := 1) rfl)) (fun _ h9 => h9) rfl dX11_putOnTape_8 ?_
      refine lv_sipush (v := 900) hx hb dX11_putOnTape_11 (by decide) ?_
      refine lv_icmp_ge (tgt := 43) hx hb dX11_putOnTape_14 (by decide) (fun c3 => ?_) (fun c3 => ?_)
      · have nc3 := (nI_leI (a := 900) (b := sx_onTape) (by omega) (by omega)).mp c3
        refine lv_iinc (v := 0) (lv' := [(2, .int 0), (0, .ref (xa 0)), (1, .int a0)]) hx hb dX11_putOnTape_43 hl (k := 0) rfl (by decide) (by decide) rfl (fun ls hl => ?_)
        refine lv_goto (tgt := 3) hx hb dX11_putOnTape_46 (by decide) ?_
        refine lv_iload_n hx hb dX11_putOnTape_3 rfl (lv_at hl 0 rfl) ?_
        refine lv_if_lt (tgt := 49) hx hb dX11_putOnTape_4 (by decide) (fun h => absurd h (by decide)) (fun _ => ?_)
        refine lv_aload_n hx hb dX11_putOnTape_7 rfl (lv_at hl 1 rfl) ?_
        refine va_get (D := D) (ci := 10) (v := .int (nI sx_onTape)) (C := RX11) (T := TX11) (N := 20) hx hb hts is_put_X11 hown hK hP 0 rfl rfl 13 (by decide) (hts (.fieldLink RX11 161 "SaltStreet" "onTape" "I") (List.mem_of_getElem? (i := 1) rfl)) (fun _ h9 => h9) rfl dX11_putOnTape_8 ?_
        refine lv_sipush (v := 900) hx hb dX11_putOnTape_11 (by decide) ?_
        refine lv_icmp_ge (tgt := 43) hx hb dX11_putOnTape_14 (by decide) (fun c4 => ?_) (fun c4 => ?_)
        · have nc4 := (nI_leI (a := 900) (b := sx_onTape) (by omega) (by omega)).mp c4
          refine lv_iinc (v := (-8)) (lv' := [(2, .int (-8)), (0, .ref (xa 0)), (1, .int a0)]) hx hb dX11_putOnTape_43 hl (k := 0) rfl (by decide) (by decide) rfl (fun ls hl => ?_)
          refine lv_goto (tgt := 3) hx hb dX11_putOnTape_46 (by decide) ?_
          refine lv_iload_n hx hb dX11_putOnTape_3 rfl (lv_at hl 0 rfl) ?_
          refine lv_if_lt (tgt := 49) hx hb dX11_putOnTape_4 (by decide) (fun _ => ?_) (fun h => absurd (by decide) h)
          have hP9 := hP.sub (ws' := [(xa 0, .inr (10, [.ref (xa 1), .ref (xa 2), .ref (na 0), .ref (pa 0), .ref (xa 3), .ref (na 1), .ref (na 2), .ref (xa 4), .ref (xa 5), .ref (xa 6), .ref (xa 7), .ref (xa 8), .ref (xa 9), .int (nI sx_onTape), .int (nI sx_marked), .int sx_status, .long sx_top, .long sx_bottom, .int sx_fault, .int sx_faultPlace])), (xa 1, .inl (kc 0, 900, .inl tape))]) [0, 1] rfl
          have hD9 := hD.sub (ws' := [(xa 0, .inr (10, [.ref (xa 1), .ref (xa 2), .ref (na 0), .ref (pa 0), .ref (xa 3), .ref (na 1), .ref (na 2), .ref (xa 4), .ref (xa 5), .ref (xa 6), .ref (xa 7), .ref (xa 8), .ref (xa 9), .int (nI sx_onTape), .int (nI sx_marked), .int sx_status, .long sx_top, .long sx_bottom, .int sx_fault, .int sx_faultPlace])), (xa 1, .inl (kc 0, 900, .inl tape))]) [0, 1] (by decide) rfl
          exact W.vret hx hb hr (fun t9 ht hW => ⟨⟨(), rfl, trivial, sx_onTape, tape, by omega, by rw [ht]; exact hP9, hD9⟩, hS.F ht⟩) hS.2.2 dX11_putOnTape_49
        · have nc4 := Nat.not_le.mp (fun q => c4 ((nI_leI (a := 900) (b := sx_onTape) (by omega) (by omega)).mpr q))
          refine lv_aload_n hx hb dX11_putOnTape_17 rfl (lv_at hl 1 rfl) ?_
          refine va_get (D := D) (ci := 10) (v := .ref (xa 1)) (C := RX11) (T := TX11) (N := 20) hx hb hts is_put_X11 hown hK hP 0 rfl rfl 0 (by decide) (hts (.fieldLink RX11 9 "SaltStreet" "tape" "[I") (List.mem_of_getElem? (i := 2) rfl)) (fun _ h9 => h9) rfl dX11_putOnTape_18 ?_
          refine lv_aload_n hx hb dX11_putOnTape_21 rfl (lv_at hl 1 rfl) ?_
          refine va_get (D := D) (ci := 10) (v := .int (nI sx_onTape)) (C := RX11) (T := TX11) (N := 20) hx hb hts is_put_X11 hown hK hP 0 rfl rfl 13 (by decide) (hts (.fieldLink RX11 161 "SaltStreet" "onTape" "I") (List.mem_of_getElem? (i := 1) rfl)) (fun _ h9 => h9) rfl dX11_putOnTape_22 ?_
          refine lv_iload_n hx hb dX11_putOnTape_25 rfl (lv_at hl 2 rfl) ?_
          refine lv_iload_n hx hb dX11_putOnTape_26 rfl (lv_at hl 0 rfl) ?_
          refine lv_iushr hx hb dX11_putOnTape_27 rfl ?_
          refine lv_topi (fun z5 _ => ?_)
          refine lv_sipush (v := 255) hx hb dX11_putOnTape_28 (by decide) ?_
          refine lv_iand hx hb dX11_putOnTape_31 ?_
          refine lv_topi (fun z6 _ => ?_)
          refine va_iast hx hb hK hP hD hS 1 0 (f := tape) rfl rfl (vp_in_nI (by omega) (by decide)) dX11_putOnTape_32 (fun H locs hP hD hS => ?_)
          have hP : va_P D vwCl [(xa 0, .inr (10, [.ref (xa 1), .ref (xa 2), .ref (na 0), .ref (pa 0), .ref (xa 3), .ref (na 1), .ref (na 2), .ref (xa 4), .ref (xa 5), .ref (xa 6), .ref (xa 7), .ref (xa 8), .ref (xa 9), .int (nI sx_onTape), .int (nI sx_marked), .int sx_status, .long sx_top, .long sx_bottom, .int sx_fault, .int sx_faultPlace])), (xa 1, .inl (kc 0, 900, .inl (upd tape ((nI sx_onTape) : Int32).toNatClampNeg z6)))] H := hP
          have hD : va_D A [(xa 0, .inr (10, [.ref (xa 1), .ref (xa 2), .ref (na 0), .ref (pa 0), .ref (xa 3), .ref (na 1), .ref (na 2), .ref (xa 4), .ref (xa 5), .ref (xa 6), .ref (xa 7), .ref (xa 8), .ref (xa 9), .int (nI sx_onTape), .int (nI sx_marked), .int sx_status, .long sx_top, .long sx_bottom, .int sx_fault, .int sx_faultPlace])), (xa 1, .inl (kc 0, 900, .inl (upd tape ((nI sx_onTape) : Int32).toNatClampNeg z6)))] := hD
          generalize (upd tape ((nI sx_onTape) : Int32).toNatClampNeg z6) = f7 at hP hD
          refine lv_aload_n hx hb dX11_putOnTape_33 rfl (lv_at hl 1 rfl) ?_
          refine lv_dup hx hb dX11_putOnTape_34 rfl ?_
          refine va_get (D := D) (ci := 10) (v := .int (nI sx_onTape)) (C := RX11) (T := TX11) (N := 20) hx hb hts is_put_X11 hown hK hP 0 rfl rfl 13 (by decide) (hts (.fieldLink RX11 161 "SaltStreet" "onTape" "I") (List.mem_of_getElem? (i := 1) rfl)) (fun _ h9 => h9) rfl dX11_putOnTape_35 ?_
          refine lv_iconst (v := 1) hx hb dX11_putOnTape_38 (by decide) ?_
          refine lv_iadd hx hb dX11_putOnTape_39 ?_
          refine lv_ci (y := (nI (sx_onTape + 1))) (nI_add _ _) ?_
          refine va_put (D := D) (ci := 10) (v := .int (nI (sx_onTape + 1))) (ty := .int) (C := RX11) (T := TX11) (N := 20) hx hb hts is_put_X11 tyX11 tyX11_ok nmX11 hown hK hP hD hS 0 rfl rfl 13 (by decide) (hts (.fieldLink RX11 161 "SaltStreet" "onTape" "I") (List.mem_of_getElem? (i := 1) rfl)) (fun _ h9 => h9) rfl (by decide +kernel) rfl rfl (Nat.le_of_ble_eq_true rfl) dX11_putOnTape_40 (fun H locs hP hD hS => ?_)
          have hP : va_P D vwCl [(xa 0, .inr (10, [.ref (xa 1), .ref (xa 2), .ref (na 0), .ref (pa 0), .ref (xa 3), .ref (na 1), .ref (na 2), .ref (xa 4), .ref (xa 5), .ref (xa 6), .ref (xa 7), .ref (xa 8), .ref (xa 9), .int (nI (sx_onTape + 1)), .int (nI sx_marked), .int sx_status, .long sx_top, .long sx_bottom, .int sx_fault, .int sx_faultPlace])), (xa 1, .inl (kc 0, 900, .inl f7))] H := hP
          have hD : va_D A [(xa 0, .inr (10, [.ref (xa 1), .ref (xa 2), .ref (na 0), .ref (pa 0), .ref (xa 3), .ref (na 1), .ref (na 2), .ref (xa 4), .ref (xa 5), .ref (xa 6), .ref (xa 7), .ref (xa 8), .ref (xa 9), .int (nI (sx_onTape + 1)), .int (nI sx_marked), .int sx_status, .long sx_top, .long sx_bottom, .int sx_fault, .int sx_faultPlace])), (xa 1, .inl (kc 0, 900, .inl f7))] := hD
          refine lv_iinc (v := (-8)) (lv' := [(2, .int (-8)), (0, .ref (xa 0)), (1, .int a0)]) hx hb dX11_putOnTape_43 hl (k := 0) rfl (by decide) (by decide) rfl (fun ls hl => ?_)
          refine lv_goto (tgt := 3) hx hb dX11_putOnTape_46 (by decide) ?_
          refine lv_iload_n hx hb dX11_putOnTape_3 rfl (lv_at hl 0 rfl) ?_
          refine lv_if_lt (tgt := 49) hx hb dX11_putOnTape_4 (by decide) (fun _ => ?_) (fun h => absurd (by decide) h)
          have hP9 := hP.sub (ws' := [(xa 0, .inr (10, [.ref (xa 1), .ref (xa 2), .ref (na 0), .ref (pa 0), .ref (xa 3), .ref (na 1), .ref (na 2), .ref (xa 4), .ref (xa 5), .ref (xa 6), .ref (xa 7), .ref (xa 8), .ref (xa 9), .int (nI (sx_onTape + 1)), .int (nI sx_marked), .int sx_status, .long sx_top, .long sx_bottom, .int sx_fault, .int sx_faultPlace])), (xa 1, .inl (kc 0, 900, .inl f7))]) [0, 1] rfl
          have hD9 := hD.sub (ws' := [(xa 0, .inr (10, [.ref (xa 1), .ref (xa 2), .ref (na 0), .ref (pa 0), .ref (xa 3), .ref (na 1), .ref (na 2), .ref (xa 4), .ref (xa 5), .ref (xa 6), .ref (xa 7), .ref (xa 8), .ref (xa 9), .int (nI (sx_onTape + 1)), .int (nI sx_marked), .int sx_status, .long sx_top, .long sx_bottom, .int sx_fault, .int sx_faultPlace])), (xa 1, .inl (kc 0, 900, .inl f7))]) [0, 1] (by decide) rfl
          exact W.vret hx hb hr (fun t9 ht hW => ⟨⟨(), rfl, trivial, (sx_onTape + 1), f7, by omega, by rw [ht]; exact hP9, hD9⟩, hS.F ht⟩) hS.2.2 dX11_putOnTape_49
      · have nc3 := Nat.not_le.mp (fun q => c3 ((nI_leI (a := 900) (b := sx_onTape) (by omega) (by omega)).mpr q))
        refine lv_aload_n hx hb dX11_putOnTape_17 rfl (lv_at hl 1 rfl) ?_
        refine va_get (D := D) (ci := 10) (v := .ref (xa 1)) (C := RX11) (T := TX11) (N := 20) hx hb hts is_put_X11 hown hK hP 0 rfl rfl 0 (by decide) (hts (.fieldLink RX11 9 "SaltStreet" "tape" "[I") (List.mem_of_getElem? (i := 2) rfl)) (fun _ h9 => h9) rfl dX11_putOnTape_18 ?_
        refine lv_aload_n hx hb dX11_putOnTape_21 rfl (lv_at hl 1 rfl) ?_
        refine va_get (D := D) (ci := 10) (v := .int (nI sx_onTape)) (C := RX11) (T := TX11) (N := 20) hx hb hts is_put_X11 hown hK hP 0 rfl rfl 13 (by decide) (hts (.fieldLink RX11 161 "SaltStreet" "onTape" "I") (List.mem_of_getElem? (i := 1) rfl)) (fun _ h9 => h9) rfl dX11_putOnTape_22 ?_
        refine lv_iload_n hx hb dX11_putOnTape_25 rfl (lv_at hl 2 rfl) ?_
        refine lv_iload_n hx hb dX11_putOnTape_26 rfl (lv_at hl 0 rfl) ?_
        refine lv_iushr hx hb dX11_putOnTape_27 rfl ?_
        refine lv_topi (fun z8 _ => ?_)
        refine lv_sipush (v := 255) hx hb dX11_putOnTape_28 (by decide) ?_
        refine lv_iand hx hb dX11_putOnTape_31 ?_
        refine lv_topi (fun z9 _ => ?_)
        refine va_iast hx hb hK hP hD hS 1 0 (f := tape) rfl rfl (vp_in_nI (by omega) (by decide)) dX11_putOnTape_32 (fun H locs hP hD hS => ?_)
        have hP : va_P D vwCl [(xa 0, .inr (10, [.ref (xa 1), .ref (xa 2), .ref (na 0), .ref (pa 0), .ref (xa 3), .ref (na 1), .ref (na 2), .ref (xa 4), .ref (xa 5), .ref (xa 6), .ref (xa 7), .ref (xa 8), .ref (xa 9), .int (nI sx_onTape), .int (nI sx_marked), .int sx_status, .long sx_top, .long sx_bottom, .int sx_fault, .int sx_faultPlace])), (xa 1, .inl (kc 0, 900, .inl (upd tape ((nI sx_onTape) : Int32).toNatClampNeg z9)))] H := hP
        have hD : va_D A [(xa 0, .inr (10, [.ref (xa 1), .ref (xa 2), .ref (na 0), .ref (pa 0), .ref (xa 3), .ref (na 1), .ref (na 2), .ref (xa 4), .ref (xa 5), .ref (xa 6), .ref (xa 7), .ref (xa 8), .ref (xa 9), .int (nI sx_onTape), .int (nI sx_marked), .int sx_status, .long sx_top, .long sx_bottom, .int sx_fault, .int sx_faultPlace])), (xa 1, .inl (kc 0, 900, .inl (upd tape ((nI sx_onTape) : Int32).toNatClampNeg z9)))] := hD
        generalize (upd tape ((nI sx_onTape) : Int32).toNatClampNeg z9) = f10 at hP hD
        refine lv_aload_n hx hb dX11_putOnTape_33 rfl (lv_at hl 1 rfl) ?_
        refine lv_dup hx hb dX11_putOnTape_34 rfl ?_
        refine va_get (D := D) (ci := 10) (v := .int (nI sx_onTape)) (C := RX11) (T := TX11) (N := 20) hx hb hts is_put_X11 hown hK hP 0 rfl rfl 13 (by decide) (hts (.fieldLink RX11 161 "SaltStreet" "onTape" "I") (List.mem_of_getElem? (i := 1) rfl)) (fun _ h9 => h9) rfl dX11_putOnTape_35 ?_
        refine lv_iconst (v := 1) hx hb dX11_putOnTape_38 (by decide) ?_
        refine lv_iadd hx hb dX11_putOnTape_39 ?_
        refine lv_ci (y := (nI (sx_onTape + 1))) (nI_add _ _) ?_
        refine va_put (D := D) (ci := 10) (v := .int (nI (sx_onTape + 1))) (ty := .int) (C := RX11) (T := TX11) (N := 20) hx hb hts is_put_X11 tyX11 tyX11_ok nmX11 hown hK hP hD hS 0 rfl rfl 13 (by decide) (hts (.fieldLink RX11 161 "SaltStreet" "onTape" "I") (List.mem_of_getElem? (i := 1) rfl)) (fun _ h9 => h9) rfl (by decide +kernel) rfl rfl (Nat.le_of_ble_eq_true rfl) dX11_putOnTape_40 (fun H locs hP hD hS => ?_)
        have hP : va_P D vwCl [(xa 0, .inr (10, [.ref (xa 1), .ref (xa 2), .ref (na 0), .ref (pa 0), .ref (xa 3), .ref (na 1), .ref (na 2), .ref (xa 4), .ref (xa 5), .ref (xa 6), .ref (xa 7), .ref (xa 8), .ref (xa 9), .int (nI (sx_onTape + 1)), .int (nI sx_marked), .int sx_status, .long sx_top, .long sx_bottom, .int sx_fault, .int sx_faultPlace])), (xa 1, .inl (kc 0, 900, .inl f10))] H := hP
        have hD : va_D A [(xa 0, .inr (10, [.ref (xa 1), .ref (xa 2), .ref (na 0), .ref (pa 0), .ref (xa 3), .ref (na 1), .ref (na 2), .ref (xa 4), .ref (xa 5), .ref (xa 6), .ref (xa 7), .ref (xa 8), .ref (xa 9), .int (nI (sx_onTape + 1)), .int (nI sx_marked), .int sx_status, .long sx_top, .long sx_bottom, .int sx_fault, .int sx_faultPlace])), (xa 1, .inl (kc 0, 900, .inl f10))] := hD
        refine lv_iinc (v := 0) (lv' := [(2, .int 0), (0, .ref (xa 0)), (1, .int a0)]) hx hb dX11_putOnTape_43 hl (k := 0) rfl (by decide) (by decide) rfl (fun ls hl => ?_)
        refine lv_goto (tgt := 3) hx hb dX11_putOnTape_46 (by decide) ?_
        refine lv_iload_n hx hb dX11_putOnTape_3 rfl (lv_at hl 0 rfl) ?_
        refine lv_if_lt (tgt := 49) hx hb dX11_putOnTape_4 (by decide) (fun h => absurd h (by decide)) (fun _ => ?_)
        refine lv_aload_n hx hb dX11_putOnTape_7 rfl (lv_at hl 1 rfl) ?_
        refine va_get (D := D) (ci := 10) (v := .int (nI (sx_onTape + 1))) (C := RX11) (T := TX11) (N := 20) hx hb hts is_put_X11 hown hK hP 0 rfl rfl 13 (by decide) (hts (.fieldLink RX11 161 "SaltStreet" "onTape" "I") (List.mem_of_getElem? (i := 1) rfl)) (fun _ h9 => h9) rfl dX11_putOnTape_8 ?_
        refine lv_sipush (v := 900) hx hb dX11_putOnTape_11 (by decide) ?_
        refine lv_icmp_ge (tgt := 43) hx hb dX11_putOnTape_14 (by decide) (fun c11 => ?_) (fun c11 => ?_)
        · have nc11 := (nI_leI (a := 900) (b := (sx_onTape + 1)) (by omega) (by omega)).mp c11
          refine lv_iinc (v := (-8)) (lv' := [(2, .int (-8)), (0, .ref (xa 0)), (1, .int a0)]) hx hb dX11_putOnTape_43 hl (k := 0) rfl (by decide) (by decide) rfl (fun ls hl => ?_)
          refine lv_goto (tgt := 3) hx hb dX11_putOnTape_46 (by decide) ?_
          refine lv_iload_n hx hb dX11_putOnTape_3 rfl (lv_at hl 0 rfl) ?_
          refine lv_if_lt (tgt := 49) hx hb dX11_putOnTape_4 (by decide) (fun _ => ?_) (fun h => absurd (by decide) h)
          have hP9 := hP.sub (ws' := [(xa 0, .inr (10, [.ref (xa 1), .ref (xa 2), .ref (na 0), .ref (pa 0), .ref (xa 3), .ref (na 1), .ref (na 2), .ref (xa 4), .ref (xa 5), .ref (xa 6), .ref (xa 7), .ref (xa 8), .ref (xa 9), .int (nI (sx_onTape + 1)), .int (nI sx_marked), .int sx_status, .long sx_top, .long sx_bottom, .int sx_fault, .int sx_faultPlace])), (xa 1, .inl (kc 0, 900, .inl f10))]) [0, 1] rfl
          have hD9 := hD.sub (ws' := [(xa 0, .inr (10, [.ref (xa 1), .ref (xa 2), .ref (na 0), .ref (pa 0), .ref (xa 3), .ref (na 1), .ref (na 2), .ref (xa 4), .ref (xa 5), .ref (xa 6), .ref (xa 7), .ref (xa 8), .ref (xa 9), .int (nI (sx_onTape + 1)), .int (nI sx_marked), .int sx_status, .long sx_top, .long sx_bottom, .int sx_fault, .int sx_faultPlace])), (xa 1, .inl (kc 0, 900, .inl f10))]) [0, 1] (by decide) rfl
          exact W.vret hx hb hr (fun t9 ht hW => ⟨⟨(), rfl, trivial, (sx_onTape + 1), f10, by omega, by rw [ht]; exact hP9, hD9⟩, hS.F ht⟩) hS.2.2 dX11_putOnTape_49
        · have nc11 := Nat.not_le.mp (fun q => c11 ((nI_leI (a := 900) (b := (sx_onTape + 1)) (by omega) (by omega)).mpr q))
          refine lv_aload_n hx hb dX11_putOnTape_17 rfl (lv_at hl 1 rfl) ?_
          refine va_get (D := D) (ci := 10) (v := .ref (xa 1)) (C := RX11) (T := TX11) (N := 20) hx hb hts is_put_X11 hown hK hP 0 rfl rfl 0 (by decide) (hts (.fieldLink RX11 9 "SaltStreet" "tape" "[I") (List.mem_of_getElem? (i := 2) rfl)) (fun _ h9 => h9) rfl dX11_putOnTape_18 ?_
          refine lv_aload_n hx hb dX11_putOnTape_21 rfl (lv_at hl 1 rfl) ?_
          refine va_get (D := D) (ci := 10) (v := .int (nI (sx_onTape + 1))) (C := RX11) (T := TX11) (N := 20) hx hb hts is_put_X11 hown hK hP 0 rfl rfl 13 (by decide) (hts (.fieldLink RX11 161 "SaltStreet" "onTape" "I") (List.mem_of_getElem? (i := 1) rfl)) (fun _ h9 => h9) rfl dX11_putOnTape_22 ?_
          refine lv_iload_n hx hb dX11_putOnTape_25 rfl (lv_at hl 2 rfl) ?_
          refine lv_iload_n hx hb dX11_putOnTape_26 rfl (lv_at hl 0 rfl) ?_
          refine lv_iushr hx hb dX11_putOnTape_27 rfl ?_
          refine lv_topi (fun z12 _ => ?_)
          refine lv_sipush (v := 255) hx hb dX11_putOnTape_28 (by decide) ?_
          refine lv_iand hx hb dX11_putOnTape_31 ?_
          refine lv_topi (fun z13 _ => ?_)
          refine va_iast hx hb hK hP hD hS 1 0 (f := f10) rfl rfl (vp_in_nI (by omega) (by decide)) dX11_putOnTape_32 (fun H locs hP hD hS => ?_)
          have hP : va_P D vwCl [(xa 0, .inr (10, [.ref (xa 1), .ref (xa 2), .ref (na 0), .ref (pa 0), .ref (xa 3), .ref (na 1), .ref (na 2), .ref (xa 4), .ref (xa 5), .ref (xa 6), .ref (xa 7), .ref (xa 8), .ref (xa 9), .int (nI (sx_onTape + 1)), .int (nI sx_marked), .int sx_status, .long sx_top, .long sx_bottom, .int sx_fault, .int sx_faultPlace])), (xa 1, .inl (kc 0, 900, .inl (upd f10 ((nI (sx_onTape + 1)) : Int32).toNatClampNeg z13)))] H := hP
          have hD : va_D A [(xa 0, .inr (10, [.ref (xa 1), .ref (xa 2), .ref (na 0), .ref (pa 0), .ref (xa 3), .ref (na 1), .ref (na 2), .ref (xa 4), .ref (xa 5), .ref (xa 6), .ref (xa 7), .ref (xa 8), .ref (xa 9), .int (nI (sx_onTape + 1)), .int (nI sx_marked), .int sx_status, .long sx_top, .long sx_bottom, .int sx_fault, .int sx_faultPlace])), (xa 1, .inl (kc 0, 900, .inl (upd f10 ((nI (sx_onTape + 1)) : Int32).toNatClampNeg z13)))] := hD
          generalize (upd f10 ((nI (sx_onTape + 1)) : Int32).toNatClampNeg z13) = f14 at hP hD
          refine lv_aload_n hx hb dX11_putOnTape_33 rfl (lv_at hl 1 rfl) ?_
          refine lv_dup hx hb dX11_putOnTape_34 rfl ?_
          refine va_get (D := D) (ci := 10) (v := .int (nI (sx_onTape + 1))) (C := RX11) (T := TX11) (N := 20) hx hb hts is_put_X11 hown hK hP 0 rfl rfl 13 (by decide) (hts (.fieldLink RX11 161 "SaltStreet" "onTape" "I") (List.mem_of_getElem? (i := 1) rfl)) (fun _ h9 => h9) rfl dX11_putOnTape_35 ?_
          refine lv_iconst (v := 1) hx hb dX11_putOnTape_38 (by decide) ?_
          refine lv_iadd hx hb dX11_putOnTape_39 ?_
          refine lv_ci (y := (nI ((sx_onTape + 1) + 1))) (nI_add _ _) ?_
          refine va_put (D := D) (ci := 10) (v := .int (nI ((sx_onTape + 1) + 1))) (ty := .int) (C := RX11) (T := TX11) (N := 20) hx hb hts is_put_X11 tyX11 tyX11_ok nmX11 hown hK hP hD hS 0 rfl rfl 13 (by decide) (hts (.fieldLink RX11 161 "SaltStreet" "onTape" "I") (List.mem_of_getElem? (i := 1) rfl)) (fun _ h9 => h9) rfl (by decide +kernel) rfl rfl (Nat.le_of_ble_eq_true rfl) dX11_putOnTape_40 (fun H locs hP hD hS => ?_)
          have hP : va_P D vwCl [(xa 0, .inr (10, [.ref (xa 1), .ref (xa 2), .ref (na 0), .ref (pa 0), .ref (xa 3), .ref (na 1), .ref (na 2), .ref (xa 4), .ref (xa 5), .ref (xa 6), .ref (xa 7), .ref (xa 8), .ref (xa 9), .int (nI ((sx_onTape + 1) + 1)), .int (nI sx_marked), .int sx_status, .long sx_top, .long sx_bottom, .int sx_fault, .int sx_faultPlace])), (xa 1, .inl (kc 0, 900, .inl f14))] H := hP
          have hD : va_D A [(xa 0, .inr (10, [.ref (xa 1), .ref (xa 2), .ref (na 0), .ref (pa 0), .ref (xa 3), .ref (na 1), .ref (na 2), .ref (xa 4), .ref (xa 5), .ref (xa 6), .ref (xa 7), .ref (xa 8), .ref (xa 9), .int (nI ((sx_onTape + 1) + 1)), .int (nI sx_marked), .int sx_status, .long sx_top, .long sx_bottom, .int sx_fault, .int sx_faultPlace])), (xa 1, .inl (kc 0, 900, .inl f14))] := hD
          refine lv_iinc (v := (-8)) (lv' := [(2, .int (-8)), (0, .ref (xa 0)), (1, .int a0)]) hx hb dX11_putOnTape_43 hl (k := 0) rfl (by decide) (by decide) rfl (fun ls hl => ?_)
          refine lv_goto (tgt := 3) hx hb dX11_putOnTape_46 (by decide) ?_
          refine lv_iload_n hx hb dX11_putOnTape_3 rfl (lv_at hl 0 rfl) ?_
          refine lv_if_lt (tgt := 49) hx hb dX11_putOnTape_4 (by decide) (fun _ => ?_) (fun h => absurd (by decide) h)
          have hP9 := hP.sub (ws' := [(xa 0, .inr (10, [.ref (xa 1), .ref (xa 2), .ref (na 0), .ref (pa 0), .ref (xa 3), .ref (na 1), .ref (na 2), .ref (xa 4), .ref (xa 5), .ref (xa 6), .ref (xa 7), .ref (xa 8), .ref (xa 9), .int (nI ((sx_onTape + 1) + 1)), .int (nI sx_marked), .int sx_status, .long sx_top, .long sx_bottom, .int sx_fault, .int sx_faultPlace])), (xa 1, .inl (kc 0, 900, .inl f14))]) [0, 1] rfl
          have hD9 := hD.sub (ws' := [(xa 0, .inr (10, [.ref (xa 1), .ref (xa 2), .ref (na 0), .ref (pa 0), .ref (xa 3), .ref (na 1), .ref (na 2), .ref (xa 4), .ref (xa 5), .ref (xa 6), .ref (xa 7), .ref (xa 8), .ref (xa 9), .int (nI ((sx_onTape + 1) + 1)), .int (nI sx_marked), .int sx_status, .long sx_top, .long sx_bottom, .int sx_fault, .int sx_faultPlace])), (xa 1, .inl (kc 0, 900, .inl f14))]) [0, 1] (by decide) rfl
          exact W.vret hx hb hr (fun t9 ht hW => ⟨⟨(), rfl, trivial, ((sx_onTape + 1) + 1), f14, by omega, by rw [ht]; exact hP9, hD9⟩, hS.F ht⟩) hS.2.2 dX11_putOnTape_49
    · have nc2 := Nat.not_le.mp (fun q => c2 ((nI_leI (a := 900) (b := sx_onTape) (by omega) (by omega)).mpr q))
      refine lv_aload_n hx hb dX11_putOnTape_17 rfl (lv_at hl 1 rfl) ?_
      refine va_get (D := D) (ci := 10) (v := .ref (xa 1)) (C := RX11) (T := TX11) (N := 20) hx hb hts is_put_X11 hown hK hP 0 rfl rfl 0 (by decide) (hts (.fieldLink RX11 9 "SaltStreet" "tape" "[I") (List.mem_of_getElem? (i := 2) rfl)) (fun _ h9 => h9) rfl dX11_putOnTape_18 ?_
      refine lv_aload_n hx hb dX11_putOnTape_21 rfl (lv_at hl 1 rfl) ?_
      refine va_get (D := D) (ci := 10) (v := .int (nI sx_onTape)) (C := RX11) (T := TX11) (N := 20) hx hb hts is_put_X11 hown hK hP 0 rfl rfl 13 (by decide) (hts (.fieldLink RX11 161 "SaltStreet" "onTape" "I") (List.mem_of_getElem? (i := 1) rfl)) (fun _ h9 => h9) rfl dX11_putOnTape_22 ?_
      refine lv_iload_n hx hb dX11_putOnTape_25 rfl (lv_at hl 2 rfl) ?_
      refine lv_iload_n hx hb dX11_putOnTape_26 rfl (lv_at hl 0 rfl) ?_
      refine lv_iushr hx hb dX11_putOnTape_27 rfl ?_
      refine lv_topi (fun z15 _ => ?_)
      refine lv_sipush (v := 255) hx hb dX11_putOnTape_28 (by decide) ?_
      refine lv_iand hx hb dX11_putOnTape_31 ?_
      refine lv_topi (fun z16 _ => ?_)
      refine va_iast hx hb hK hP hD hS 1 0 (f := tape) rfl rfl (vp_in_nI (by omega) (by decide)) dX11_putOnTape_32 (fun H locs hP hD hS => ?_)
      have hP : va_P D vwCl [(xa 0, .inr (10, [.ref (xa 1), .ref (xa 2), .ref (na 0), .ref (pa 0), .ref (xa 3), .ref (na 1), .ref (na 2), .ref (xa 4), .ref (xa 5), .ref (xa 6), .ref (xa 7), .ref (xa 8), .ref (xa 9), .int (nI sx_onTape), .int (nI sx_marked), .int sx_status, .long sx_top, .long sx_bottom, .int sx_fault, .int sx_faultPlace])), (xa 1, .inl (kc 0, 900, .inl (upd tape ((nI sx_onTape) : Int32).toNatClampNeg z16)))] H := hP
      have hD : va_D A [(xa 0, .inr (10, [.ref (xa 1), .ref (xa 2), .ref (na 0), .ref (pa 0), .ref (xa 3), .ref (na 1), .ref (na 2), .ref (xa 4), .ref (xa 5), .ref (xa 6), .ref (xa 7), .ref (xa 8), .ref (xa 9), .int (nI sx_onTape), .int (nI sx_marked), .int sx_status, .long sx_top, .long sx_bottom, .int sx_fault, .int sx_faultPlace])), (xa 1, .inl (kc 0, 900, .inl (upd tape ((nI sx_onTape) : Int32).toNatClampNeg z16)))] := hD
      generalize (upd tape ((nI sx_onTape) : Int32).toNatClampNeg z16) = f17 at hP hD
      refine lv_aload_n hx hb dX11_putOnTape_33 rfl (lv_at hl 1 rfl) ?_
      refine lv_dup hx hb dX11_putOnTape_34 rfl ?_
      refine va_get (D := D) (ci := 10) (v := .int (nI sx_onTape)) (C := RX11) (T := TX11) (N := 20) hx hb hts is_put_X11 hown hK hP 0 rfl rfl 13 (by decide) (hts (.fieldLink RX11 161 "SaltStreet" "onTape" "I") (List.mem_of_getElem? (i := 1) rfl)) (fun _ h9 => h9) rfl dX11_putOnTape_35 ?_
      refine lv_iconst (v := 1) hx hb dX11_putOnTape_38 (by decide) ?_
      refine lv_iadd hx hb dX11_putOnTape_39 ?_
      refine lv_ci (y := (nI (sx_onTape + 1))) (nI_add _ _) ?_
      refine va_put (D := D) (ci := 10) (v := .int (nI (sx_onTape + 1))) (ty := .int) (C := RX11) (T := TX11) (N := 20) hx hb hts is_put_X11 tyX11 tyX11_ok nmX11 hown hK hP hD hS 0 rfl rfl 13 (by decide) (hts (.fieldLink RX11 161 "SaltStreet" "onTape" "I") (List.mem_of_getElem? (i := 1) rfl)) (fun _ h9 => h9) rfl (by decide +kernel) rfl rfl (Nat.le_of_ble_eq_true rfl) dX11_putOnTape_40 (fun H locs hP hD hS => ?_)
      have hP : va_P D vwCl [(xa 0, .inr (10, [.ref (xa 1), .ref (xa 2), .ref (na 0), .ref (pa 0), .ref (xa 3), .ref (na 1), .ref (na 2), .ref (xa 4), .ref (xa 5), .ref (xa 6), .ref (xa 7), .ref (xa 8), .ref (xa 9), .int (nI (sx_onTape + 1)), .int (nI sx_marked), .int sx_status, .long sx_top, .long sx_bottom, .int sx_fault, .int sx_faultPlace])), (xa 1, .inl (kc 0, 900, .inl f17))] H := hP
      have hD : va_D A [(xa 0, .inr (10, [.ref (xa 1), .ref (xa 2), .ref (na 0), .ref (pa 0), .ref (xa 3), .ref (na 1), .ref (na 2), .ref (xa 4), .ref (xa 5), .ref (xa 6), .ref (xa 7), .ref (xa 8), .ref (xa 9), .int (nI (sx_onTape + 1)), .int (nI sx_marked), .int sx_status, .long sx_top, .long sx_bottom, .int sx_fault, .int sx_faultPlace])), (xa 1, .inl (kc 0, 900, .inl f17))] := hD
      refine lv_iinc (v := 8) (lv' := [(2, .int 8), (0, .ref (xa 0)), (1, .int a0)]) hx hb dX11_putOnTape_43 hl (k := 0) rfl (by decide) (by decide) rfl (fun ls hl => ?_)
      refine lv_goto (tgt := 3) hx hb dX11_putOnTape_46 (by decide) ?_
      refine lv_iload_n hx hb dX11_putOnTape_3 rfl (lv_at hl 0 rfl) ?_
      refine lv_if_lt (tgt := 49) hx hb dX11_putOnTape_4 (by decide) (fun h => absurd h (by decide)) (fun _ => ?_)
      refine lv_aload_n hx hb dX11_putOnTape_7 rfl (lv_at hl 1 rfl) ?_
      refine va_get (D := D) (ci := 10) (v := .int (nI (sx_onTape + 1))) (C := RX11) (T := TX11) (N := 20) hx hb hts is_put_X11 hown hK hP 0 rfl rfl 13 (by decide) (hts (.fieldLink RX11 161 "SaltStreet" "onTape" "I") (List.mem_of_getElem? (i := 1) rfl)) (fun _ h9 => h9) rfl dX11_putOnTape_8 ?_
      refine lv_sipush (v := 900) hx hb dX11_putOnTape_11 (by decide) ?_
      refine lv_icmp_ge (tgt := 43) hx hb dX11_putOnTape_14 (by decide) (fun c18 => ?_) (fun c18 => ?_)
      · have nc18 := (nI_leI (a := 900) (b := (sx_onTape + 1)) (by omega) (by omega)).mp c18
        refine lv_iinc (v := 0) (lv' := [(2, .int 0), (0, .ref (xa 0)), (1, .int a0)]) hx hb dX11_putOnTape_43 hl (k := 0) rfl (by decide) (by decide) rfl (fun ls hl => ?_)
        refine lv_goto (tgt := 3) hx hb dX11_putOnTape_46 (by decide) ?_
        refine lv_iload_n hx hb dX11_putOnTape_3 rfl (lv_at hl 0 rfl) ?_
        refine lv_if_lt (tgt := 49) hx hb dX11_putOnTape_4 (by decide) (fun h => absurd h (by decide)) (fun _ => ?_)
        refine lv_aload_n hx hb dX11_putOnTape_7 rfl (lv_at hl 1 rfl) ?_
        refine va_get (D := D) (ci := 10) (v := .int (nI (sx_onTape + 1))) (C := RX11) (T := TX11) (N := 20) hx hb hts is_put_X11 hown hK hP 0 rfl rfl 13 (by decide) (hts (.fieldLink RX11 161 "SaltStreet" "onTape" "I") (List.mem_of_getElem? (i := 1) rfl)) (fun _ h9 => h9) rfl dX11_putOnTape_8 ?_
        refine lv_sipush (v := 900) hx hb dX11_putOnTape_11 (by decide) ?_
        refine lv_icmp_ge (tgt := 43) hx hb dX11_putOnTape_14 (by decide) (fun c19 => ?_) (fun c19 => ?_)
        · have nc19 := (nI_leI (a := 900) (b := (sx_onTape + 1)) (by omega) (by omega)).mp c19
          refine lv_iinc (v := (-8)) (lv' := [(2, .int (-8)), (0, .ref (xa 0)), (1, .int a0)]) hx hb dX11_putOnTape_43 hl (k := 0) rfl (by decide) (by decide) rfl (fun ls hl => ?_)
          refine lv_goto (tgt := 3) hx hb dX11_putOnTape_46 (by decide) ?_
          refine lv_iload_n hx hb dX11_putOnTape_3 rfl (lv_at hl 0 rfl) ?_
          refine lv_if_lt (tgt := 49) hx hb dX11_putOnTape_4 (by decide) (fun _ => ?_) (fun h => absurd (by decide) h)
          have hP9 := hP.sub (ws' := [(xa 0, .inr (10, [.ref (xa 1), .ref (xa 2), .ref (na 0), .ref (pa 0), .ref (xa 3), .ref (na 1), .ref (na 2), .ref (xa 4), .ref (xa 5), .ref (xa 6), .ref (xa 7), .ref (xa 8), .ref (xa 9), .int (nI (sx_onTape + 1)), .int (nI sx_marked), .int sx_status, .long sx_top, .long sx_bottom, .int sx_fault, .int sx_faultPlace])), (xa 1, .inl (kc 0, 900, .inl f17))]) [0, 1] rfl
          have hD9 := hD.sub (ws' := [(xa 0, .inr (10, [.ref (xa 1), .ref (xa 2), .ref (na 0), .ref (pa 0), .ref (xa 3), .ref (na 1), .ref (na 2), .ref (xa 4), .ref (xa 5), .ref (xa 6), .ref (xa 7), .ref (xa 8), .ref (xa 9), .int (nI (sx_onTape + 1)), .int (nI sx_marked), .int sx_status, .long sx_top, .long sx_bottom, .int sx_fault, .int sx_faultPlace])), (xa 1, .inl (kc 0, 900, .inl f17))]) [0, 1] (by decide) rfl
          exact W.vret hx hb hr (fun t9 ht hW => ⟨⟨(), rfl, trivial, (sx_onTape + 1), f17, by omega, by rw [ht]; exact hP9, hD9⟩, hS.F ht⟩) hS.2.2 dX11_putOnTape_49
        · have nc19 := Nat.not_le.mp (fun q => c19 ((nI_leI (a := 900) (b := (sx_onTape + 1)) (by omega) (by omega)).mpr q))
          refine lv_aload_n hx hb dX11_putOnTape_17 rfl (lv_at hl 1 rfl) ?_
          refine va_get (D := D) (ci := 10) (v := .ref (xa 1)) (C := RX11) (T := TX11) (N := 20) hx hb hts is_put_X11 hown hK hP 0 rfl rfl 0 (by decide) (hts (.fieldLink RX11 9 "SaltStreet" "tape" "[I") (List.mem_of_getElem? (i := 2) rfl)) (fun _ h9 => h9) rfl dX11_putOnTape_18 ?_
          refine lv_aload_n hx hb dX11_putOnTape_21 rfl (lv_at hl 1 rfl) ?_
          refine va_get (D := D) (ci := 10) (v := .int (nI (sx_onTape + 1))) (C := RX11) (T := TX11) (N := 20) hx hb hts is_put_X11 hown hK hP 0 rfl rfl 13 (by decide) (hts (.fieldLink RX11 161 "SaltStreet" "onTape" "I") (List.mem_of_getElem? (i := 1) rfl)) (fun _ h9 => h9) rfl dX11_putOnTape_22 ?_
          refine lv_iload_n hx hb dX11_putOnTape_25 rfl (lv_at hl 2 rfl) ?_
          refine lv_iload_n hx hb dX11_putOnTape_26 rfl (lv_at hl 0 rfl) ?_
          refine lv_iushr hx hb dX11_putOnTape_27 rfl ?_
          refine lv_topi (fun z20 _ => ?_)
          refine lv_sipush (v := 255) hx hb dX11_putOnTape_28 (by decide) ?_
          refine lv_iand hx hb dX11_putOnTape_31 ?_
          refine lv_topi (fun z21 _ => ?_)
          refine va_iast hx hb hK hP hD hS 1 0 (f := f17) rfl rfl (vp_in_nI (by omega) (by decide)) dX11_putOnTape_32 (fun H locs hP hD hS => ?_)
          have hP : va_P D vwCl [(xa 0, .inr (10, [.ref (xa 1), .ref (xa 2), .ref (na 0), .ref (pa 0), .ref (xa 3), .ref (na 1), .ref (na 2), .ref (xa 4), .ref (xa 5), .ref (xa 6), .ref (xa 7), .ref (xa 8), .ref (xa 9), .int (nI (sx_onTape + 1)), .int (nI sx_marked), .int sx_status, .long sx_top, .long sx_bottom, .int sx_fault, .int sx_faultPlace])), (xa 1, .inl (kc 0, 900, .inl (upd f17 ((nI (sx_onTape + 1)) : Int32).toNatClampNeg z21)))] H := hP
          have hD : va_D A [(xa 0, .inr (10, [.ref (xa 1), .ref (xa 2), .ref (na 0), .ref (pa 0), .ref (xa 3), .ref (na 1), .ref (na 2), .ref (xa 4), .ref (xa 5), .ref (xa 6), .ref (xa 7), .ref (xa 8), .ref (xa 9), .int (nI (sx_onTape + 1)), .int (nI sx_marked), .int sx_status, .long sx_top, .long sx_bottom, .int sx_fault, .int sx_faultPlace])), (xa 1, .inl (kc 0, 900, .inl (upd f17 ((nI (sx_onTape + 1)) : Int32).toNatClampNeg z21)))] := hD
          generalize (upd f17 ((nI (sx_onTape + 1)) : Int32).toNatClampNeg z21) = f22 at hP hD
          refine lv_aload_n hx hb dX11_putOnTape_33 rfl (lv_at hl 1 rfl) ?_
          refine lv_dup hx hb dX11_putOnTape_34 rfl ?_
          refine va_get (D := D) (ci := 10) (v := .int (nI (sx_onTape + 1))) (C := RX11) (T := TX11) (N := 20) hx hb hts is_put_X11 hown hK hP 0 rfl rfl 13 (by decide) (hts (.fieldLink RX11 161 "SaltStreet" "onTape" "I") (List.mem_of_getElem? (i := 1) rfl)) (fun _ h9 => h9) rfl dX11_putOnTape_35 ?_
          refine lv_iconst (v := 1) hx hb dX11_putOnTape_38 (by decide) ?_
          refine lv_iadd hx hb dX11_putOnTape_39 ?_
          refine lv_ci (y := (nI ((sx_onTape + 1) + 1))) (nI_add _ _) ?_
          refine va_put (D := D) (ci := 10) (v := .int (nI ((sx_onTape + 1) + 1))) (ty := .int) (C := RX11) (T := TX11) (N := 20) hx hb hts is_put_X11 tyX11 tyX11_ok nmX11 hown hK hP hD hS 0 rfl rfl 13 (by decide) (hts (.fieldLink RX11 161 "SaltStreet" "onTape" "I") (List.mem_of_getElem? (i := 1) rfl)) (fun _ h9 => h9) rfl (by decide +kernel) rfl rfl (Nat.le_of_ble_eq_true rfl) dX11_putOnTape_40 (fun H locs hP hD hS => ?_)
          have hP : va_P D vwCl [(xa 0, .inr (10, [.ref (xa 1), .ref (xa 2), .ref (na 0), .ref (pa 0), .ref (xa 3), .ref (na 1), .ref (na 2), .ref (xa 4), .ref (xa 5), .ref (xa 6), .ref (xa 7), .ref (xa 8), .ref (xa 9), .int (nI ((sx_onTape + 1) + 1)), .int (nI sx_marked), .int sx_status, .long sx_top, .long sx_bottom, .int sx_fault, .int sx_faultPlace])), (xa 1, .inl (kc 0, 900, .inl f22))] H := hP
          have hD : va_D A [(xa 0, .inr (10, [.ref (xa 1), .ref (xa 2), .ref (na 0), .ref (pa 0), .ref (xa 3), .ref (na 1), .ref (na 2), .ref (xa 4), .ref (xa 5), .ref (xa 6), .ref (xa 7), .ref (xa 8), .ref (xa 9), .int (nI ((sx_onTape + 1) + 1)), .int (nI sx_marked), .int sx_status, .long sx_top, .long sx_bottom, .int sx_fault, .int sx_faultPlace])), (xa 1, .inl (kc 0, 900, .inl f22))] := hD
          refine lv_iinc (v := (-8)) (lv' := [(2, .int (-8)), (0, .ref (xa 0)), (1, .int a0)]) hx hb dX11_putOnTape_43 hl (k := 0) rfl (by decide) (by decide) rfl (fun ls hl => ?_)
          refine lv_goto (tgt := 3) hx hb dX11_putOnTape_46 (by decide) ?_
          refine lv_iload_n hx hb dX11_putOnTape_3 rfl (lv_at hl 0 rfl) ?_
          refine lv_if_lt (tgt := 49) hx hb dX11_putOnTape_4 (by decide) (fun _ => ?_) (fun h => absurd (by decide) h)
          have hP9 := hP.sub (ws' := [(xa 0, .inr (10, [.ref (xa 1), .ref (xa 2), .ref (na 0), .ref (pa 0), .ref (xa 3), .ref (na 1), .ref (na 2), .ref (xa 4), .ref (xa 5), .ref (xa 6), .ref (xa 7), .ref (xa 8), .ref (xa 9), .int (nI ((sx_onTape + 1) + 1)), .int (nI sx_marked), .int sx_status, .long sx_top, .long sx_bottom, .int sx_fault, .int sx_faultPlace])), (xa 1, .inl (kc 0, 900, .inl f22))]) [0, 1] rfl
          have hD9 := hD.sub (ws' := [(xa 0, .inr (10, [.ref (xa 1), .ref (xa 2), .ref (na 0), .ref (pa 0), .ref (xa 3), .ref (na 1), .ref (na 2), .ref (xa 4), .ref (xa 5), .ref (xa 6), .ref (xa 7), .ref (xa 8), .ref (xa 9), .int (nI ((sx_onTape + 1) + 1)), .int (nI sx_marked), .int sx_status, .long sx_top, .long sx_bottom, .int sx_fault, .int sx_faultPlace])), (xa 1, .inl (kc 0, 900, .inl f22))]) [0, 1] (by decide) rfl
          exact W.vret hx hb hr (fun t9 ht hW => ⟨⟨(), rfl, trivial, ((sx_onTape + 1) + 1), f22, by omega, by rw [ht]; exact hP9, hD9⟩, hS.F ht⟩) hS.2.2 dX11_putOnTape_49
      · have nc18 := Nat.not_le.mp (fun q => c18 ((nI_leI (a := 900) (b := (sx_onTape + 1)) (by omega) (by omega)).mpr q))
        refine lv_aload_n hx hb dX11_putOnTape_17 rfl (lv_at hl 1 rfl) ?_
        refine va_get (D := D) (ci := 10) (v := .ref (xa 1)) (C := RX11) (T := TX11) (N := 20) hx hb hts is_put_X11 hown hK hP 0 rfl rfl 0 (by decide) (hts (.fieldLink RX11 9 "SaltStreet" "tape" "[I") (List.mem_of_getElem? (i := 2) rfl)) (fun _ h9 => h9) rfl dX11_putOnTape_18 ?_
        refine lv_aload_n hx hb dX11_putOnTape_21 rfl (lv_at hl 1 rfl) ?_
        refine va_get (D := D) (ci := 10) (v := .int (nI (sx_onTape + 1))) (C := RX11) (T := TX11) (N := 20) hx hb hts is_put_X11 hown hK hP 0 rfl rfl 13 (by decide) (hts (.fieldLink RX11 161 "SaltStreet" "onTape" "I") (List.mem_of_getElem? (i := 1) rfl)) (fun _ h9 => h9) rfl dX11_putOnTape_22 ?_
        refine lv_iload_n hx hb dX11_putOnTape_25 rfl (lv_at hl 2 rfl) ?_
        refine lv_iload_n hx hb dX11_putOnTape_26 rfl (lv_at hl 0 rfl) ?_
        refine lv_iushr hx hb dX11_putOnTape_27 rfl ?_
        refine lv_topi (fun z23 _ => ?_)
        refine lv_sipush (v := 255) hx hb dX11_putOnTape_28 (by decide) ?_
        refine lv_iand hx hb dX11_putOnTape_31 ?_
        refine lv_topi (fun z24 _ => ?_)
        refine va_iast hx hb hK hP hD hS 1 0 (f := f17) rfl rfl (vp_in_nI (by omega) (by decide)) dX11_putOnTape_32 (fun H locs hP hD hS => ?_)
        have hP : va_P D vwCl [(xa 0, .inr (10, [.ref (xa 1), .ref (xa 2), .ref (na 0), .ref (pa 0), .ref (xa 3), .ref (na 1), .ref (na 2), .ref (xa 4), .ref (xa 5), .ref (xa 6), .ref (xa 7), .ref (xa 8), .ref (xa 9), .int (nI (sx_onTape + 1)), .int (nI sx_marked), .int sx_status, .long sx_top, .long sx_bottom, .int sx_fault, .int sx_faultPlace])), (xa 1, .inl (kc 0, 900, .inl (upd f17 ((nI (sx_onTape + 1)) : Int32).toNatClampNeg z24)))] H := hP
        have hD : va_D A [(xa 0, .inr (10, [.ref (xa 1), .ref (xa 2), .ref (na 0), .ref (pa 0), .ref (xa 3), .ref (na 1), .ref (na 2), .ref (xa 4), .ref (xa 5), .ref (xa 6), .ref (xa 7), .ref (xa 8), .ref (xa 9), .int (nI (sx_onTape + 1)), .int (nI sx_marked), .int sx_status, .long sx_top, .long sx_bottom, .int sx_fault, .int sx_faultPlace])), (xa 1, .inl (kc 0, 900, .inl (upd f17 ((nI (sx_onTape + 1)) : Int32).toNatClampNeg z24)))] := hD
        generalize (upd f17 ((nI (sx_onTape + 1)) : Int32).toNatClampNeg z24) = f25 at hP hD
        refine lv_aload_n hx hb dX11_putOnTape_33 rfl (lv_at hl 1 rfl) ?_
        refine lv_dup hx hb dX11_putOnTape_34 rfl ?_
        refine va_get (D := D) (ci := 10) (v := .int (nI (sx_onTape + 1))) (C := RX11) (T := TX11) (N := 20) hx hb hts is_put_X11 hown hK hP 0 rfl rfl 13 (by decide) (hts (.fieldLink RX11 161 "SaltStreet" "onTape" "I") (List.mem_of_getElem? (i := 1) rfl)) (fun _ h9 => h9) rfl dX11_putOnTape_35 ?_
        refine lv_iconst (v := 1) hx hb dX11_putOnTape_38 (by decide) ?_
        refine lv_iadd hx hb dX11_putOnTape_39 ?_
        refine lv_ci (y := (nI ((sx_onTape + 1) + 1))) (nI_add _ _) ?_
        refine va_put (D := D) (ci := 10) (v := .int (nI ((sx_onTape + 1) + 1))) (ty := .int) (C := RX11) (T := TX11) (N := 20) hx hb hts is_put_X11 tyX11 tyX11_ok nmX11 hown hK hP hD hS 0 rfl rfl 13 (by decide) (hts (.fieldLink RX11 161 "SaltStreet" "onTape" "I") (List.mem_of_getElem? (i := 1) rfl)) (fun _ h9 => h9) rfl (by decide +kernel) rfl rfl (Nat.le_of_ble_eq_true rfl) dX11_putOnTape_40 (fun H locs hP hD hS => ?_)
        have hP : va_P D vwCl [(xa 0, .inr (10, [.ref (xa 1), .ref (xa 2), .ref (na 0), .ref (pa 0), .ref (xa 3), .ref (na 1), .ref (na 2), .ref (xa 4), .ref (xa 5), .ref (xa 6), .ref (xa 7), .ref (xa 8), .ref (xa 9), .int (nI ((sx_onTape + 1) + 1)), .int (nI sx_marked), .int sx_status, .long sx_top, .long sx_bottom, .int sx_fault, .int sx_faultPlace])), (xa 1, .inl (kc 0, 900, .inl f25))] H := hP
        have hD : va_D A [(xa 0, .inr (10, [.ref (xa 1), .ref (xa 2), .ref (na 0), .ref (pa 0), .ref (xa 3), .ref (na 1), .ref (na 2), .ref (xa 4), .ref (xa 5), .ref (xa 6), .ref (xa 7), .ref (xa 8), .ref (xa 9), .int (nI ((sx_onTape + 1) + 1)), .int (nI sx_marked), .int sx_status, .long sx_top, .long sx_bottom, .int sx_fault, .int sx_faultPlace])), (xa 1, .inl (kc 0, 900, .inl f25))] := hD
        refine lv_iinc (v := 0) (lv' := [(2, .int 0), (0, .ref (xa 0)), (1, .int a0)]) hx hb dX11_putOnTape_43 hl (k := 0) rfl (by decide) (by decide) rfl (fun ls hl => ?_)
        refine lv_goto (tgt := 3) hx hb dX11_putOnTape_46 (by decide) ?_
        refine lv_iload_n hx hb dX11_putOnTape_3 rfl (lv_at hl 0 rfl) ?_
        refine lv_if_lt (tgt := 49) hx hb dX11_putOnTape_4 (by decide) (fun h => absurd h (by decide)) (fun _ => ?_)
        refine lv_aload_n hx hb dX11_putOnTape_7 rfl (lv_at hl 1 rfl) ?_
        refine va_get (D := D) (ci := 10) (v := .int (nI ((sx_onTape + 1) + 1))) (C := RX11) (T := TX11) (N := 20) hx hb hts is_put_X11 hown hK hP 0 rfl rfl 13 (by decide) (hts (.fieldLink RX11 161 "SaltStreet" "onTape" "I") (List.mem_of_getElem? (i := 1) rfl)) (fun _ h9 => h9) rfl dX11_putOnTape_8 ?_
        refine lv_sipush (v := 900) hx hb dX11_putOnTape_11 (by decide) ?_
        refine lv_icmp_ge (tgt := 43) hx hb dX11_putOnTape_14 (by decide) (fun c26 => ?_) (fun c26 => ?_)
        · have nc26 := (nI_leI (a := 900) (b := ((sx_onTape + 1) + 1)) (by omega) (by omega)).mp c26
          refine lv_iinc (v := (-8)) (lv' := [(2, .int (-8)), (0, .ref (xa 0)), (1, .int a0)]) hx hb dX11_putOnTape_43 hl (k := 0) rfl (by decide) (by decide) rfl (fun ls hl => ?_)
          refine lv_goto (tgt := 3) hx hb dX11_putOnTape_46 (by decide) ?_
          refine lv_iload_n hx hb dX11_putOnTape_3 rfl (lv_at hl 0 rfl) ?_
          refine lv_if_lt (tgt := 49) hx hb dX11_putOnTape_4 (by decide) (fun _ => ?_) (fun h => absurd (by decide) h)
          have hP9 := hP.sub (ws' := [(xa 0, .inr (10, [.ref (xa 1), .ref (xa 2), .ref (na 0), .ref (pa 0), .ref (xa 3), .ref (na 1), .ref (na 2), .ref (xa 4), .ref (xa 5), .ref (xa 6), .ref (xa 7), .ref (xa 8), .ref (xa 9), .int (nI ((sx_onTape + 1) + 1)), .int (nI sx_marked), .int sx_status, .long sx_top, .long sx_bottom, .int sx_fault, .int sx_faultPlace])), (xa 1, .inl (kc 0, 900, .inl f25))]) [0, 1] rfl
          have hD9 := hD.sub (ws' := [(xa 0, .inr (10, [.ref (xa 1), .ref (xa 2), .ref (na 0), .ref (pa 0), .ref (xa 3), .ref (na 1), .ref (na 2), .ref (xa 4), .ref (xa 5), .ref (xa 6), .ref (xa 7), .ref (xa 8), .ref (xa 9), .int (nI ((sx_onTape + 1) + 1)), .int (nI sx_marked), .int sx_status, .long sx_top, .long sx_bottom, .int sx_fault, .int sx_faultPlace])), (xa 1, .inl (kc 0, 900, .inl f25))]) [0, 1] (by decide) rfl
          exact W.vret hx hb hr (fun t9 ht hW => ⟨⟨(), rfl, trivial, ((sx_onTape + 1) + 1), f25, by omega, by rw [ht]; exact hP9, hD9⟩, hS.F ht⟩) hS.2.2 dX11_putOnTape_49
        · have nc26 := Nat.not_le.mp (fun q => c26 ((nI_leI (a := 900) (b := ((sx_onTape + 1) + 1)) (by omega) (by omega)).mpr q))
          refine lv_aload_n hx hb dX11_putOnTape_17 rfl (lv_at hl 1 rfl) ?_
          refine va_get (D := D) (ci := 10) (v := .ref (xa 1)) (C := RX11) (T := TX11) (N := 20) hx hb hts is_put_X11 hown hK hP 0 rfl rfl 0 (by decide) (hts (.fieldLink RX11 9 "SaltStreet" "tape" "[I") (List.mem_of_getElem? (i := 2) rfl)) (fun _ h9 => h9) rfl dX11_putOnTape_18 ?_
          refine lv_aload_n hx hb dX11_putOnTape_21 rfl (lv_at hl 1 rfl) ?_
          refine va_get (D := D) (ci := 10) (v := .int (nI ((sx_onTape + 1) + 1))) (C := RX11) (T := TX11) (N := 20) hx hb hts is_put_X11 hown hK hP 0 rfl rfl 13 (by decide) (hts (.fieldLink RX11 161 "SaltStreet" "onTape" "I") (List.mem_of_getElem? (i := 1) rfl)) (fun _ h9 => h9) rfl dX11_putOnTape_22 ?_
          refine lv_iload_n hx hb dX11_putOnTape_25 rfl (lv_at hl 2 rfl) ?_
          refine lv_iload_n hx hb dX11_putOnTape_26 rfl (lv_at hl 0 rfl) ?_
          refine lv_iushr hx hb dX11_putOnTape_27 rfl ?_
          refine lv_topi (fun z27 _ => ?_)
          refine lv_sipush (v := 255) hx hb dX11_putOnTape_28 (by decide) ?_
          refine lv_iand hx hb dX11_putOnTape_31 ?_
          refine lv_topi (fun z28 _ => ?_)
          refine va_iast hx hb hK hP hD hS 1 0 (f := f25) rfl rfl (vp_in_nI (by omega) (by decide)) dX11_putOnTape_32 (fun H locs hP hD hS => ?_)
          have hP : va_P D vwCl [(xa 0, .inr (10, [.ref (xa 1), .ref (xa 2), .ref (na 0), .ref (pa 0), .ref (xa 3), .ref (na 1), .ref (na 2), .ref (xa 4), .ref (xa 5), .ref (xa 6), .ref (xa 7), .ref (xa 8), .ref (xa 9), .int (nI ((sx_onTape + 1) + 1)), .int (nI sx_marked), .int sx_status, .long sx_top, .long sx_bottom, .int sx_fault, .int sx_faultPlace])), (xa 1, .inl (kc 0, 900, .inl (upd f25 ((nI ((sx_onTape + 1) + 1)) : Int32).toNatClampNeg z28)))] H := hP
          have hD : va_D A [(xa 0, .inr (10, [.ref (xa 1), .ref (xa 2), .ref (na 0), .ref (pa 0), .ref (xa 3), .ref (na 1), .ref (na 2), .ref (xa 4), .ref (xa 5), .ref (xa 6), .ref (xa 7), .ref (xa 8), .ref (xa 9), .int (nI ((sx_onTape + 1) + 1)), .int (nI sx_marked), .int sx_status, .long sx_top, .long sx_bottom, .int sx_fault, .int sx_faultPlace])), (xa 1, .inl (kc 0, 900, .inl (upd f25 ((nI ((sx_onTape + 1) + 1)) : Int32).toNatClampNeg z28)))] := hD
          generalize (upd f25 ((nI ((sx_onTape + 1) + 1)) : Int32).toNatClampNeg z28) = f29 at hP hD
          refine lv_aload_n hx hb dX11_putOnTape_33 rfl (lv_at hl 1 rfl) ?_
          refine lv_dup hx hb dX11_putOnTape_34 rfl ?_
          refine va_get (D := D) (ci := 10) (v := .int (nI ((sx_onTape + 1) + 1))) (C := RX11) (T := TX11) (N := 20) hx hb hts is_put_X11 hown hK hP 0 rfl rfl 13 (by decide) (hts (.fieldLink RX11 161 "SaltStreet" "onTape" "I") (List.mem_of_getElem? (i := 1) rfl)) (fun _ h9 => h9) rfl dX11_putOnTape_35 ?_
          refine lv_iconst (v := 1) hx hb dX11_putOnTape_38 (by decide) ?_
          refine lv_iadd hx hb dX11_putOnTape_39 ?_
          refine lv_ci (y := (nI (((sx_onTape + 1) + 1) + 1))) (nI_add _ _) ?_
          refine va_put (D := D) (ci := 10) (v := .int (nI (((sx_onTape + 1) + 1) + 1))) (ty := .int) (C := RX11) (T := TX11) (N := 20) hx hb hts is_put_X11 tyX11 tyX11_ok nmX11 hown hK hP hD hS 0 rfl rfl 13 (by decide) (hts (.fieldLink RX11 161 "SaltStreet" "onTape" "I") (List.mem_of_getElem? (i := 1) rfl)) (fun _ h9 => h9) rfl (by decide +kernel) rfl rfl (Nat.le_of_ble_eq_true rfl) dX11_putOnTape_40 (fun H locs hP hD hS => ?_)
          have hP : va_P D vwCl [(xa 0, .inr (10, [.ref (xa 1), .ref (xa 2), .ref (na 0), .ref (pa 0), .ref (xa 3), .ref (na 1), .ref (na 2), .ref (xa 4), .ref (xa 5), .ref (xa 6), .ref (xa 7), .ref (xa 8), .ref (xa 9), .int (nI (((sx_onTape + 1) + 1) + 1)), .int (nI sx_marked), .int sx_status, .long sx_top, .long sx_bottom, .int sx_fault, .int sx_faultPlace])), (xa 1, .inl (kc 0, 900, .inl f29))] H := hP
          have hD : va_D A [(xa 0, .inr (10, [.ref (xa 1), .ref (xa 2), .ref (na 0), .ref (pa 0), .ref (xa 3), .ref (na 1), .ref (na 2), .ref (xa 4), .ref (xa 5), .ref (xa 6), .ref (xa 7), .ref (xa 8), .ref (xa 9), .int (nI (((sx_onTape + 1) + 1) + 1)), .int (nI sx_marked), .int sx_status, .long sx_top, .long sx_bottom, .int sx_fault, .int sx_faultPlace])), (xa 1, .inl (kc 0, 900, .inl f29))] := hD
          refine lv_iinc (v := (-8)) (lv' := [(2, .int (-8)), (0, .ref (xa 0)), (1, .int a0)]) hx hb dX11_putOnTape_43 hl (k := 0) rfl (by decide) (by decide) rfl (fun ls hl => ?_)
          refine lv_goto (tgt := 3) hx hb dX11_putOnTape_46 (by decide) ?_
          refine lv_iload_n hx hb dX11_putOnTape_3 rfl (lv_at hl 0 rfl) ?_
          refine lv_if_lt (tgt := 49) hx hb dX11_putOnTape_4 (by decide) (fun _ => ?_) (fun h => absurd (by decide) h)
          have hP9 := hP.sub (ws' := [(xa 0, .inr (10, [.ref (xa 1), .ref (xa 2), .ref (na 0), .ref (pa 0), .ref (xa 3), .ref (na 1), .ref (na 2), .ref (xa 4), .ref (xa 5), .ref (xa 6), .ref (xa 7), .ref (xa 8), .ref (xa 9), .int (nI (((sx_onTape + 1) + 1) + 1)), .int (nI sx_marked), .int sx_status, .long sx_top, .long sx_bottom, .int sx_fault, .int sx_faultPlace])), (xa 1, .inl (kc 0, 900, .inl f29))]) [0, 1] rfl
          have hD9 := hD.sub (ws' := [(xa 0, .inr (10, [.ref (xa 1), .ref (xa 2), .ref (na 0), .ref (pa 0), .ref (xa 3), .ref (na 1), .ref (na 2), .ref (xa 4), .ref (xa 5), .ref (xa 6), .ref (xa 7), .ref (xa 8), .ref (xa 9), .int (nI (((sx_onTape + 1) + 1) + 1)), .int (nI sx_marked), .int sx_status, .long sx_top, .long sx_bottom, .int sx_fault, .int sx_faultPlace])), (xa 1, .inl (kc 0, 900, .inl f29))]) [0, 1] (by decide) rfl
          exact W.vret hx hb hr (fun t9 ht hW => ⟨⟨(), rfl, trivial, (((sx_onTape + 1) + 1) + 1), f29, by omega, by rw [ht]; exact hP9, hD9⟩, hS.F ht⟩) hS.2.2 dX11_putOnTape_49
  · have nc1 := Nat.not_le.mp (fun q => c1 ((nI_leI (a := 900) (b := sx_onTape) (by omega) (by omega)).mpr q))
    refine lv_aload_n hx hb dX11_putOnTape_17 rfl (lv_at hl 1 rfl) ?_
    refine va_get (D := D) (ci := 10) (v := .ref (xa 1)) (C := RX11) (T := TX11) (N := 20) hx hb hts is_put_X11 hown hK hP 0 rfl rfl 0 (by decide) (hts (.fieldLink RX11 9 "SaltStreet" "tape" "[I") (List.mem_of_getElem? (i := 2) rfl)) (fun _ h9 => h9) rfl dX11_putOnTape_18 ?_
    refine lv_aload_n hx hb dX11_putOnTape_21 rfl (lv_at hl 1 rfl) ?_
    refine va_get (D := D) (ci := 10) (v := .int (nI sx_onTape)) (C := RX11) (T := TX11) (N := 20) hx hb hts is_put_X11 hown hK hP 0 rfl rfl 13 (by decide) (hts (.fieldLink RX11 161 "SaltStreet" "onTape" "I") (List.mem_of_getElem? (i := 1) rfl)) (fun _ h9 => h9) rfl dX11_putOnTape_22 ?_
    refine lv_iload_n hx hb dX11_putOnTape_25 rfl (lv_at hl 2 rfl) ?_
    refine lv_iload_n hx hb dX11_putOnTape_26 rfl (lv_at hl 0 rfl) ?_
    refine lv_iushr hx hb dX11_putOnTape_27 rfl ?_
    refine lv_topi (fun z30 _ => ?_)
    refine lv_sipush (v := 255) hx hb dX11_putOnTape_28 (by decide) ?_
    refine lv_iand hx hb dX11_putOnTape_31 ?_
    refine lv_topi (fun z31 _ => ?_)
    refine va_iast hx hb hK hP hD hS 1 0 (f := tape) rfl rfl (vp_in_nI (by omega) (by decide)) dX11_putOnTape_32 (fun H locs hP hD hS => ?_)
    have hP : va_P D vwCl [(xa 0, .inr (10, [.ref (xa 1), .ref (xa 2), .ref (na 0), .ref (pa 0), .ref (xa 3), .ref (na 1), .ref (na 2), .ref (xa 4), .ref (xa 5), .ref (xa 6), .ref (xa 7), .ref (xa 8), .ref (xa 9), .int (nI sx_onTape), .int (nI sx_marked), .int sx_status, .long sx_top, .long sx_bottom, .int sx_fault, .int sx_faultPlace])), (xa 1, .inl (kc 0, 900, .inl (upd tape ((nI sx_onTape) : Int32).toNatClampNeg z31)))] H := hP
    have hD : va_D A [(xa 0, .inr (10, [.ref (xa 1), .ref (xa 2), .ref (na 0), .ref (pa 0), .ref (xa 3), .ref (na 1), .ref (na 2), .ref (xa 4), .ref (xa 5), .ref (xa 6), .ref (xa 7), .ref (xa 8), .ref (xa 9), .int (nI sx_onTape), .int (nI sx_marked), .int sx_status, .long sx_top, .long sx_bottom, .int sx_fault, .int sx_faultPlace])), (xa 1, .inl (kc 0, 900, .inl (upd tape ((nI sx_onTape) : Int32).toNatClampNeg z31)))] := hD
    generalize (upd tape ((nI sx_onTape) : Int32).toNatClampNeg z31) = f32 at hP hD
    refine lv_aload_n hx hb dX11_putOnTape_33 rfl (lv_at hl 1 rfl) ?_
    refine lv_dup hx hb dX11_putOnTape_34 rfl ?_
    refine va_get (D := D) (ci := 10) (v := .int (nI sx_onTape)) (C := RX11) (T := TX11) (N := 20) hx hb hts is_put_X11 hown hK hP 0 rfl rfl 13 (by decide) (hts (.fieldLink RX11 161 "SaltStreet" "onTape" "I") (List.mem_of_getElem? (i := 1) rfl)) (fun _ h9 => h9) rfl dX11_putOnTape_35 ?_
    refine lv_iconst (v := 1) hx hb dX11_putOnTape_38 (by decide) ?_
    refine lv_iadd hx hb dX11_putOnTape_39 ?_
    refine lv_ci (y := (nI (sx_onTape + 1))) (nI_add _ _) ?_
    refine va_put (D := D) (ci := 10) (v := .int (nI (sx_onTape + 1))) (ty := .int) (C := RX11) (T := TX11) (N := 20) hx hb hts is_put_X11 tyX11 tyX11_ok nmX11 hown hK hP hD hS 0 rfl rfl 13 (by decide) (hts (.fieldLink RX11 161 "SaltStreet" "onTape" "I") (List.mem_of_getElem? (i := 1) rfl)) (fun _ h9 => h9) rfl (by decide +kernel) rfl rfl (Nat.le_of_ble_eq_true rfl) dX11_putOnTape_40 (fun H locs hP hD hS => ?_)
    have hP : va_P D vwCl [(xa 0, .inr (10, [.ref (xa 1), .ref (xa 2), .ref (na 0), .ref (pa 0), .ref (xa 3), .ref (na 1), .ref (na 2), .ref (xa 4), .ref (xa 5), .ref (xa 6), .ref (xa 7), .ref (xa 8), .ref (xa 9), .int (nI (sx_onTape + 1)), .int (nI sx_marked), .int sx_status, .long sx_top, .long sx_bottom, .int sx_fault, .int sx_faultPlace])), (xa 1, .inl (kc 0, 900, .inl f32))] H := hP
    have hD : va_D A [(xa 0, .inr (10, [.ref (xa 1), .ref (xa 2), .ref (na 0), .ref (pa 0), .ref (xa 3), .ref (na 1), .ref (na 2), .ref (xa 4), .ref (xa 5), .ref (xa 6), .ref (xa 7), .ref (xa 8), .ref (xa 9), .int (nI (sx_onTape + 1)), .int (nI sx_marked), .int sx_status, .long sx_top, .long sx_bottom, .int sx_fault, .int sx_faultPlace])), (xa 1, .inl (kc 0, 900, .inl f32))] := hD
    refine lv_iinc (v := 16) (lv' := [(2, .int 16), (0, .ref (xa 0)), (1, .int a0)]) hx hb dX11_putOnTape_43 hl (k := 0) rfl (by decide) (by decide) rfl (fun ls hl => ?_)
    refine lv_goto (tgt := 3) hx hb dX11_putOnTape_46 (by decide) ?_
    refine lv_iload_n hx hb dX11_putOnTape_3 rfl (lv_at hl 0 rfl) ?_
    refine lv_if_lt (tgt := 49) hx hb dX11_putOnTape_4 (by decide) (fun h => absurd h (by decide)) (fun _ => ?_)
    refine lv_aload_n hx hb dX11_putOnTape_7 rfl (lv_at hl 1 rfl) ?_
    refine va_get (D := D) (ci := 10) (v := .int (nI (sx_onTape + 1))) (C := RX11) (T := TX11) (N := 20) hx hb hts is_put_X11 hown hK hP 0 rfl rfl 13 (by decide) (hts (.fieldLink RX11 161 "SaltStreet" "onTape" "I") (List.mem_of_getElem? (i := 1) rfl)) (fun _ h9 => h9) rfl dX11_putOnTape_8 ?_
    refine lv_sipush (v := 900) hx hb dX11_putOnTape_11 (by decide) ?_
    refine lv_icmp_ge (tgt := 43) hx hb dX11_putOnTape_14 (by decide) (fun c33 => ?_) (fun c33 => ?_)
    · have nc33 := (nI_leI (a := 900) (b := (sx_onTape + 1)) (by omega) (by omega)).mp c33
      refine lv_iinc (v := 8) (lv' := [(2, .int 8), (0, .ref (xa 0)), (1, .int a0)]) hx hb dX11_putOnTape_43 hl (k := 0) rfl (by decide) (by decide) rfl (fun ls hl => ?_)
      refine lv_goto (tgt := 3) hx hb dX11_putOnTape_46 (by decide) ?_
      refine lv_iload_n hx hb dX11_putOnTape_3 rfl (lv_at hl 0 rfl) ?_
      refine lv_if_lt (tgt := 49) hx hb dX11_putOnTape_4 (by decide) (fun h => absurd h (by decide)) (fun _ => ?_)
      refine lv_aload_n hx hb dX11_putOnTape_7 rfl (lv_at hl 1 rfl) ?_
      refine va_get (D := D) (ci := 10) (v := .int (nI (sx_onTape + 1))) (C := RX11) (T := TX11) (N := 20) hx hb hts is_put_X11 hown hK hP 0 rfl rfl 13 (by decide) (hts (.fieldLink RX11 161 "SaltStreet" "onTape" "I") (List.mem_of_getElem? (i := 1) rfl)) (fun _ h9 => h9) rfl dX11_putOnTape_8 ?_
      refine lv_sipush (v := 900) hx hb dX11_putOnTape_11 (by decide) ?_
      refine lv_icmp_ge (tgt := 43) hx hb dX11_putOnTape_14 (by decide) (fun c34 => ?_) (fun c34 => ?_)
      · have nc34 := (nI_leI (a := 900) (b := (sx_onTape + 1)) (by omega) (by omega)).mp c34
        refine lv_iinc (v := 0) (lv' := [(2, .int 0), (0, .ref (xa 0)), (1, .int a0)]) hx hb dX11_putOnTape_43 hl (k := 0) rfl (by decide) (by decide) rfl (fun ls hl => ?_)
        refine lv_goto (tgt := 3) hx hb dX11_putOnTape_46 (by decide) ?_
        refine lv_iload_n hx hb dX11_putOnTape_3 rfl (lv_at hl 0 rfl) ?_
        refine lv_if_lt (tgt := 49) hx hb dX11_putOnTape_4 (by decide) (fun h => absurd h (by decide)) (fun _ => ?_)
        refine lv_aload_n hx hb dX11_putOnTape_7 rfl (lv_at hl 1 rfl) ?_
        refine va_get (D := D) (ci := 10) (v := .int (nI (sx_onTape + 1))) (C := RX11) (T := TX11) (N := 20) hx hb hts is_put_X11 hown hK hP 0 rfl rfl 13 (by decide) (hts (.fieldLink RX11 161 "SaltStreet" "onTape" "I") (List.mem_of_getElem? (i := 1) rfl)) (fun _ h9 => h9) rfl dX11_putOnTape_8 ?_
        refine lv_sipush (v := 900) hx hb dX11_putOnTape_11 (by decide) ?_
        refine lv_icmp_ge (tgt := 43) hx hb dX11_putOnTape_14 (by decide) (fun c35 => ?_) (fun c35 => ?_)
        · have nc35 := (nI_leI (a := 900) (b := (sx_onTape + 1)) (by omega) (by omega)).mp c35
          refine lv_iinc (v := (-8)) (lv' := [(2, .int (-8)), (0, .ref (xa 0)), (1, .int a0)]) hx hb dX11_putOnTape_43 hl (k := 0) rfl (by decide) (by decide) rfl (fun ls hl => ?_)
          refine lv_goto (tgt := 3) hx hb dX11_putOnTape_46 (by decide) ?_
          refine lv_iload_n hx hb dX11_putOnTape_3 rfl (lv_at hl 0 rfl) ?_
          refine lv_if_lt (tgt := 49) hx hb dX11_putOnTape_4 (by decide) (fun _ => ?_) (fun h => absurd (by decide) h)
          have hP9 := hP.sub (ws' := [(xa 0, .inr (10, [.ref (xa 1), .ref (xa 2), .ref (na 0), .ref (pa 0), .ref (xa 3), .ref (na 1), .ref (na 2), .ref (xa 4), .ref (xa 5), .ref (xa 6), .ref (xa 7), .ref (xa 8), .ref (xa 9), .int (nI (sx_onTape + 1)), .int (nI sx_marked), .int sx_status, .long sx_top, .long sx_bottom, .int sx_fault, .int sx_faultPlace])), (xa 1, .inl (kc 0, 900, .inl f32))]) [0, 1] rfl
          have hD9 := hD.sub (ws' := [(xa 0, .inr (10, [.ref (xa 1), .ref (xa 2), .ref (na 0), .ref (pa 0), .ref (xa 3), .ref (na 1), .ref (na 2), .ref (xa 4), .ref (xa 5), .ref (xa 6), .ref (xa 7), .ref (xa 8), .ref (xa 9), .int (nI (sx_onTape + 1)), .int (nI sx_marked), .int sx_status, .long sx_top, .long sx_bottom, .int sx_fault, .int sx_faultPlace])), (xa 1, .inl (kc 0, 900, .inl f32))]) [0, 1] (by decide) rfl
          exact W.vret hx hb hr (fun t9 ht hW => ⟨⟨(), rfl, trivial, (sx_onTape + 1), f32, by omega, by rw [ht]; exact hP9, hD9⟩, hS.F ht⟩) hS.2.2 dX11_putOnTape_49
        · have nc35 := Nat.not_le.mp (fun q => c35 ((nI_leI (a := 900) (b := (sx_onTape + 1)) (by omega) (by omega)).mpr q))
          refine lv_aload_n hx hb dX11_putOnTape_17 rfl (lv_at hl 1 rfl) ?_
          refine va_get (D := D) (ci := 10) (v := .ref (xa 1)) (C := RX11) (T := TX11) (N := 20) hx hb hts is_put_X11 hown hK hP 0 rfl rfl 0 (by decide) (hts (.fieldLink RX11 9 "SaltStreet" "tape" "[I") (List.mem_of_getElem? (i := 2) rfl)) (fun _ h9 => h9) rfl dX11_putOnTape_18 ?_
          refine lv_aload_n hx hb dX11_putOnTape_21 rfl (lv_at hl 1 rfl) ?_
          refine va_get (D := D) (ci := 10) (v := .int (nI (sx_onTape + 1))) (C := RX11) (T := TX11) (N := 20) hx hb hts is_put_X11 hown hK hP 0 rfl rfl 13 (by decide) (hts (.fieldLink RX11 161 "SaltStreet" "onTape" "I") (List.mem_of_getElem? (i := 1) rfl)) (fun _ h9 => h9) rfl dX11_putOnTape_22 ?_
          refine lv_iload_n hx hb dX11_putOnTape_25 rfl (lv_at hl 2 rfl) ?_
          refine lv_iload_n hx hb dX11_putOnTape_26 rfl (lv_at hl 0 rfl) ?_
          refine lv_iushr hx hb dX11_putOnTape_27 rfl ?_
          refine lv_topi (fun z36 _ => ?_)
          refine lv_sipush (v := 255) hx hb dX11_putOnTape_28 (by decide) ?_
          refine lv_iand hx hb dX11_putOnTape_31 ?_
          refine lv_topi (fun z37 _ => ?_)
          refine va_iast hx hb hK hP hD hS 1 0 (f := f32) rfl rfl (vp_in_nI (by omega) (by decide)) dX11_putOnTape_32 (fun H locs hP hD hS => ?_)
          have hP : va_P D vwCl [(xa 0, .inr (10, [.ref (xa 1), .ref (xa 2), .ref (na 0), .ref (pa 0), .ref (xa 3), .ref (na 1), .ref (na 2), .ref (xa 4), .ref (xa 5), .ref (xa 6), .ref (xa 7), .ref (xa 8), .ref (xa 9), .int (nI (sx_onTape + 1)), .int (nI sx_marked), .int sx_status, .long sx_top, .long sx_bottom, .int sx_fault, .int sx_faultPlace])), (xa 1, .inl (kc 0, 900, .inl (upd f32 ((nI (sx_onTape + 1)) : Int32).toNatClampNeg z37)))] H := hP
          have hD : va_D A [(xa 0, .inr (10, [.ref (xa 1), .ref (xa 2), .ref (na 0), .ref (pa 0), .ref (xa 3), .ref (na 1), .ref (na 2), .ref (xa 4), .ref (xa 5), .ref (xa 6), .ref (xa 7), .ref (xa 8), .ref (xa 9), .int (nI (sx_onTape + 1)), .int (nI sx_marked), .int sx_status, .long sx_top, .long sx_bottom, .int sx_fault, .int sx_faultPlace])), (xa 1, .inl (kc 0, 900, .inl (upd f32 ((nI (sx_onTape + 1)) : Int32).toNatClampNeg z37)))] := hD
          generalize (upd f32 ((nI (sx_onTape + 1)) : Int32).toNatClampNeg z37) = f38 at hP hD
          refine lv_aload_n hx hb dX11_putOnTape_33 rfl (lv_at hl 1 rfl) ?_
          refine lv_dup hx hb dX11_putOnTape_34 rfl ?_
          refine va_get (D := D) (ci := 10) (v := .int (nI (sx_onTape + 1))) (C := RX11) (T := TX11) (N := 20) hx hb hts is_put_X11 hown hK hP 0 rfl rfl 13 (by decide) (hts (.fieldLink RX11 161 "SaltStreet" "onTape" "I") (List.mem_of_getElem? (i := 1) rfl)) (fun _ h9 => h9) rfl dX11_putOnTape_35 ?_
          refine lv_iconst (v := 1) hx hb dX11_putOnTape_38 (by decide) ?_
          refine lv_iadd hx hb dX11_putOnTape_39 ?_
          refine lv_ci (y := (nI ((sx_onTape + 1) + 1))) (nI_add _ _) ?_
          refine va_put (D := D) (ci := 10) (v := .int (nI ((sx_onTape + 1) + 1))) (ty := .int) (C := RX11) (T := TX11) (N := 20) hx hb hts is_put_X11 tyX11 tyX11_ok nmX11 hown hK hP hD hS 0 rfl rfl 13 (by decide) (hts (.fieldLink RX11 161 "SaltStreet" "onTape" "I") (List.mem_of_getElem? (i := 1) rfl)) (fun _ h9 => h9) rfl (by decide +kernel) rfl rfl (Nat.le_of_ble_eq_true rfl) dX11_putOnTape_40 (fun H locs hP hD hS => ?_)
          have hP : va_P D vwCl [(xa 0, .inr (10, [.ref (xa 1), .ref (xa 2), .ref (na 0), .ref (pa 0), .ref (xa 3), .ref (na 1), .ref (na 2), .ref (xa 4), .ref (xa 5), .ref (xa 6), .ref (xa 7), .ref (xa 8), .ref (xa 9), .int (nI ((sx_onTape + 1) + 1)), .int (nI sx_marked), .int sx_status, .long sx_top, .long sx_bottom, .int sx_fault, .int sx_faultPlace])), (xa 1, .inl (kc 0, 900, .inl f38))] H := hP
          have hD : va_D A [(xa 0, .inr (10, [.ref (xa 1), .ref (xa 2), .ref (na 0), .ref (pa 0), .ref (xa 3), .ref (na 1), .ref (na 2), .ref (xa 4), .ref (xa 5), .ref (xa 6), .ref (xa 7), .ref (xa 8), .ref (xa 9), .int (nI ((sx_onTape + 1) + 1)), .int (nI sx_marked), .int sx_status, .long sx_top, .long sx_bottom, .int sx_fault, .int sx_faultPlace])), (xa 1, .inl (kc 0, 900, .inl f38))] := hD
          refine lv_iinc (v := (-8)) (lv' := [(2, .int (-8)), (0, .ref (xa 0)), (1, .int a0)]) hx hb dX11_putOnTape_43 hl (k := 0) rfl (by decide) (by decide) rfl (fun ls hl => ?_)
          refine lv_goto (tgt := 3) hx hb dX11_putOnTape_46 (by decide) ?_
          refine lv_iload_n hx hb dX11_putOnTape_3 rfl (lv_at hl 0 rfl) ?_
          refine lv_if_lt (tgt := 49) hx hb dX11_putOnTape_4 (by decide) (fun _ => ?_) (fun h => absurd (by decide) h)
          have hP9 := hP.sub (ws' := [(xa 0, .inr (10, [.ref (xa 1), .ref (xa 2), .ref (na 0), .ref (pa 0), .ref (xa 3), .ref (na 1), .ref (na 2), .ref (xa 4), .ref (xa 5), .ref (xa 6), .ref (xa 7), .ref (xa 8), .ref (xa 9), .int (nI ((sx_onTape + 1) + 1)), .int (nI sx_marked), .int sx_status, .long sx_top, .long sx_bottom, .int sx_fault, .int sx_faultPlace])), (xa 1, .inl (kc 0, 900, .inl f38))]) [0, 1] rfl
          have hD9 := hD.sub (ws' := [(xa 0, .inr (10, [.ref (xa 1), .ref (xa 2), .ref (na 0), .ref (pa 0), .ref (xa 3), .ref (na 1), .ref (na 2), .ref (xa 4), .ref (xa 5), .ref (xa 6), .ref (xa 7), .ref (xa 8), .ref (xa 9), .int (nI ((sx_onTape + 1) + 1)), .int (nI sx_marked), .int sx_status, .long sx_top, .long sx_bottom, .int sx_fault, .int sx_faultPlace])), (xa 1, .inl (kc 0, 900, .inl f38))]) [0, 1] (by decide) rfl
          exact W.vret hx hb hr (fun t9 ht hW => ⟨⟨(), rfl, trivial, ((sx_onTape + 1) + 1), f38, by omega, by rw [ht]; exact hP9, hD9⟩, hS.F ht⟩) hS.2.2 dX11_putOnTape_49
      · have nc34 := Nat.not_le.mp (fun q => c34 ((nI_leI (a := 900) (b := (sx_onTape + 1)) (by omega) (by omega)).mpr q))
        refine lv_aload_n hx hb dX11_putOnTape_17 rfl (lv_at hl 1 rfl) ?_
        refine va_get (D := D) (ci := 10) (v := .ref (xa 1)) (C := RX11) (T := TX11) (N := 20) hx hb hts is_put_X11 hown hK hP 0 rfl rfl 0 (by decide) (hts (.fieldLink RX11 9 "SaltStreet" "tape" "[I") (List.mem_of_getElem? (i := 2) rfl)) (fun _ h9 => h9) rfl dX11_putOnTape_18 ?_
        refine lv_aload_n hx hb dX11_putOnTape_21 rfl (lv_at hl 1 rfl) ?_
        refine va_get (D := D) (ci := 10) (v := .int (nI (sx_onTape + 1))) (C := RX11) (T := TX11) (N := 20) hx hb hts is_put_X11 hown hK hP 0 rfl rfl 13 (by decide) (hts (.fieldLink RX11 161 "SaltStreet" "onTape" "I") (List.mem_of_getElem? (i := 1) rfl)) (fun _ h9 => h9) rfl dX11_putOnTape_22 ?_
        refine lv_iload_n hx hb dX11_putOnTape_25 rfl (lv_at hl 2 rfl) ?_
        refine lv_iload_n hx hb dX11_putOnTape_26 rfl (lv_at hl 0 rfl) ?_
        refine lv_iushr hx hb dX11_putOnTape_27 rfl ?_
        refine lv_topi (fun z39 _ => ?_)
        refine lv_sipush (v := 255) hx hb dX11_putOnTape_28 (by decide) ?_
        refine lv_iand hx hb dX11_putOnTape_31 ?_
        refine lv_topi (fun z40 _ => ?_)
        refine va_iast hx hb hK hP hD hS 1 0 (f := f32) rfl rfl (vp_in_nI (by omega) (by decide)) dX11_putOnTape_32 (fun H locs hP hD hS => ?_)
        have hP : va_P D vwCl [(xa 0, .inr (10, [.ref (xa 1), .ref (xa 2), .ref (na 0), .ref (pa 0), .ref (xa 3), .ref (na 1), .ref (na 2), .ref (xa 4), .ref (xa 5), .ref (xa 6), .ref (xa 7), .ref (xa 8), .ref (xa 9), .int (nI (sx_onTape + 1)), .int (nI sx_marked), .int sx_status, .long sx_top, .long sx_bottom, .int sx_fault, .int sx_faultPlace])), (xa 1, .inl (kc 0, 900, .inl (upd f32 ((nI (sx_onTape + 1)) : Int32).toNatClampNeg z40)))] H := hP
        have hD : va_D A [(xa 0, .inr (10, [.ref (xa 1), .ref (xa 2), .ref (na 0), .ref (pa 0), .ref (xa 3), .ref (na 1), .ref (na 2), .ref (xa 4), .ref (xa 5), .ref (xa 6), .ref (xa 7), .ref (xa 8), .ref (xa 9), .int (nI (sx_onTape + 1)), .int (nI sx_marked), .int sx_status, .long sx_top, .long sx_bottom, .int sx_fault, .int sx_faultPlace])), (xa 1, .inl (kc 0, 900, .inl (upd f32 ((nI (sx_onTape + 1)) : Int32).toNatClampNeg z40)))] := hD
        generalize (upd f32 ((nI (sx_onTape + 1)) : Int32).toNatClampNeg z40) = f41 at hP hD
        refine lv_aload_n hx hb dX11_putOnTape_33 rfl (lv_at hl 1 rfl) ?_
        refine lv_dup hx hb dX11_putOnTape_34 rfl ?_
        refine va_get (D := D) (ci := 10) (v := .int (nI (sx_onTape + 1))) (C := RX11) (T := TX11) (N := 20) hx hb hts is_put_X11 hown hK hP 0 rfl rfl 13 (by decide) (hts (.fieldLink RX11 161 "SaltStreet" "onTape" "I") (List.mem_of_getElem? (i := 1) rfl)) (fun _ h9 => h9) rfl dX11_putOnTape_35 ?_
        refine lv_iconst (v := 1) hx hb dX11_putOnTape_38 (by decide) ?_
        refine lv_iadd hx hb dX11_putOnTape_39 ?_
        refine lv_ci (y := (nI ((sx_onTape + 1) + 1))) (nI_add _ _) ?_
        refine va_put (D := D) (ci := 10) (v := .int (nI ((sx_onTape + 1) + 1))) (ty := .int) (C := RX11) (T := TX11) (N := 20) hx hb hts is_put_X11 tyX11 tyX11_ok nmX11 hown hK hP hD hS 0 rfl rfl 13 (by decide) (hts (.fieldLink RX11 161 "SaltStreet" "onTape" "I") (List.mem_of_getElem? (i := 1) rfl)) (fun _ h9 => h9) rfl (by decide +kernel) rfl rfl (Nat.le_of_ble_eq_true rfl) dX11_putOnTape_40 (fun H locs hP hD hS => ?_)
        have hP : va_P D vwCl [(xa 0, .inr (10, [.ref (xa 1), .ref (xa 2), .ref (na 0), .ref (pa 0), .ref (xa 3), .ref (na 1), .ref (na 2), .ref (xa 4), .ref (xa 5), .ref (xa 6), .ref (xa 7), .ref (xa 8), .ref (xa 9), .int (nI ((sx_onTape + 1) + 1)), .int (nI sx_marked), .int sx_status, .long sx_top, .long sx_bottom, .int sx_fault, .int sx_faultPlace])), (xa 1, .inl (kc 0, 900, .inl f41))] H := hP
        have hD : va_D A [(xa 0, .inr (10, [.ref (xa 1), .ref (xa 2), .ref (na 0), .ref (pa 0), .ref (xa 3), .ref (na 1), .ref (na 2), .ref (xa 4), .ref (xa 5), .ref (xa 6), .ref (xa 7), .ref (xa 8), .ref (xa 9), .int (nI ((sx_onTape + 1) + 1)), .int (nI sx_marked), .int sx_status, .long sx_top, .long sx_bottom, .int sx_fault, .int sx_faultPlace])), (xa 1, .inl (kc 0, 900, .inl f41))] := hD
        refine lv_iinc (v := 0) (lv' := [(2, .int 0), (0, .ref (xa 0)), (1, .int a0)]) hx hb dX11_putOnTape_43 hl (k := 0) rfl (by decide) (by decide) rfl (fun ls hl => ?_)
        refine lv_goto (tgt := 3) hx hb dX11_putOnTape_46 (by decide) ?_
        refine lv_iload_n hx hb dX11_putOnTape_3 rfl (lv_at hl 0 rfl) ?_
        refine lv_if_lt (tgt := 49) hx hb dX11_putOnTape_4 (by decide) (fun h => absurd h (by decide)) (fun _ => ?_)
        refine lv_aload_n hx hb dX11_putOnTape_7 rfl (lv_at hl 1 rfl) ?_
        refine va_get (D := D) (ci := 10) (v := .int (nI ((sx_onTape + 1) + 1))) (C := RX11) (T := TX11) (N := 20) hx hb hts is_put_X11 hown hK hP 0 rfl rfl 13 (by decide) (hts (.fieldLink RX11 161 "SaltStreet" "onTape" "I") (List.mem_of_getElem? (i := 1) rfl)) (fun _ h9 => h9) rfl dX11_putOnTape_8 ?_
        refine lv_sipush (v := 900) hx hb dX11_putOnTape_11 (by decide) ?_
        refine lv_icmp_ge (tgt := 43) hx hb dX11_putOnTape_14 (by decide) (fun c42 => ?_) (fun c42 => ?_)
        · have nc42 := (nI_leI (a := 900) (b := ((sx_onTape + 1) + 1)) (by omega) (by omega)).mp c42
          refine lv_iinc (v := (-8)) (lv' := [(2, .int (-8)), (0, .ref (xa 0)), (1, .int a0)]) hx hb dX11_putOnTape_43 hl (k := 0) rfl (by decide) (by decide) rfl (fun ls hl => ?_)
          refine lv_goto (tgt := 3) hx hb dX11_putOnTape_46 (by decide) ?_
          refine lv_iload_n hx hb dX11_putOnTape_3 rfl (lv_at hl 0 rfl) ?_
          refine lv_if_lt (tgt := 49) hx hb dX11_putOnTape_4 (by decide) (fun _ => ?_) (fun h => absurd (by decide) h)
          have hP9 := hP.sub (ws' := [(xa 0, .inr (10, [.ref (xa 1), .ref (xa 2), .ref (na 0), .ref (pa 0), .ref (xa 3), .ref (na 1), .ref (na 2), .ref (xa 4), .ref (xa 5), .ref (xa 6), .ref (xa 7), .ref (xa 8), .ref (xa 9), .int (nI ((sx_onTape + 1) + 1)), .int (nI sx_marked), .int sx_status, .long sx_top, .long sx_bottom, .int sx_fault, .int sx_faultPlace])), (xa 1, .inl (kc 0, 900, .inl f41))]) [0, 1] rfl
          have hD9 := hD.sub (ws' := [(xa 0, .inr (10, [.ref (xa 1), .ref (xa 2), .ref (na 0), .ref (pa 0), .ref (xa 3), .ref (na 1), .ref (na 2), .ref (xa 4), .ref (xa 5), .ref (xa 6), .ref (xa 7), .ref (xa 8), .ref (xa 9), .int (nI ((sx_onTape + 1) + 1)), .int (nI sx_marked), .int sx_status, .long sx_top, .long sx_bottom, .int sx_fault, .int sx_faultPlace])), (xa 1, .inl (kc 0, 900, .inl f41))]) [0, 1] (by decide) rfl
          exact W.vret hx hb hr (fun t9 ht hW => ⟨⟨(), rfl, trivial, ((sx_onTape + 1) + 1), f41, by omega, by rw [ht]; exact hP9, hD9⟩, hS.F ht⟩) hS.2.2 dX11_putOnTape_49
        · have nc42 := Nat.not_le.mp (fun q => c42 ((nI_leI (a := 900) (b := ((sx_onTape + 1) + 1)) (by omega) (by omega)).mpr q))
          refine lv_aload_n hx hb dX11_putOnTape_17 rfl (lv_at hl 1 rfl) ?_
          refine va_get (D := D) (ci := 10) (v := .ref (xa 1)) (C := RX11) (T := TX11) (N := 20) hx hb hts is_put_X11 hown hK hP 0 rfl rfl 0 (by decide) (hts (.fieldLink RX11 9 "SaltStreet" "tape" "[I") (List.mem_of_getElem? (i := 2) rfl)) (fun _ h9 => h9) rfl dX11_putOnTape_18 ?_
          refine lv_aload_n hx hb dX11_putOnTape_21 rfl (lv_at hl 1 rfl) ?_
          refine va_get (D := D) (ci := 10) (v := .int (nI ((sx_onTape + 1) + 1))) (C := RX11) (T := TX11) (N := 20) hx hb hts is_put_X11 hown hK hP 0 rfl rfl 13 (by decide) (hts (.fieldLink RX11 161 "SaltStreet" "onTape" "I") (List.mem_of_getElem? (i := 1) rfl)) (fun _ h9 => h9) rfl dX11_putOnTape_22 ?_
          refine lv_iload_n hx hb dX11_putOnTape_25 rfl (lv_at hl 2 rfl) ?_
          refine lv_iload_n hx hb dX11_putOnTape_26 rfl (lv_at hl 0 rfl) ?_
          refine lv_iushr hx hb dX11_putOnTape_27 rfl ?_
          refine lv_topi (fun z43 _ => ?_)
          refine lv_sipush (v := 255) hx hb dX11_putOnTape_28 (by decide) ?_
          refine lv_iand hx hb dX11_putOnTape_31 ?_
          refine lv_topi (fun z44 _ => ?_)
          refine va_iast hx hb hK hP hD hS 1 0 (f := f41) rfl rfl (vp_in_nI (by omega) (by decide)) dX11_putOnTape_32 (fun H locs hP hD hS => ?_)
          have hP : va_P D vwCl [(xa 0, .inr (10, [.ref (xa 1), .ref (xa 2), .ref (na 0), .ref (pa 0), .ref (xa 3), .ref (na 1), .ref (na 2), .ref (xa 4), .ref (xa 5), .ref (xa 6), .ref (xa 7), .ref (xa 8), .ref (xa 9), .int (nI ((sx_onTape + 1) + 1)), .int (nI sx_marked), .int sx_status, .long sx_top, .long sx_bottom, .int sx_fault, .int sx_faultPlace])), (xa 1, .inl (kc 0, 900, .inl (upd f41 ((nI ((sx_onTape + 1) + 1)) : Int32).toNatClampNeg z44)))] H := hP
          have hD : va_D A [(xa 0, .inr (10, [.ref (xa 1), .ref (xa 2), .ref (na 0), .ref (pa 0), .ref (xa 3), .ref (na 1), .ref (na 2), .ref (xa 4), .ref (xa 5), .ref (xa 6), .ref (xa 7), .ref (xa 8), .ref (xa 9), .int (nI ((sx_onTape + 1) + 1)), .int (nI sx_marked), .int sx_status, .long sx_top, .long sx_bottom, .int sx_fault, .int sx_faultPlace])), (xa 1, .inl (kc 0, 900, .inl (upd f41 ((nI ((sx_onTape + 1) + 1)) : Int32).toNatClampNeg z44)))] := hD
          generalize (upd f41 ((nI ((sx_onTape + 1) + 1)) : Int32).toNatClampNeg z44) = f45 at hP hD
          refine lv_aload_n hx hb dX11_putOnTape_33 rfl (lv_at hl 1 rfl) ?_
          refine lv_dup hx hb dX11_putOnTape_34 rfl ?_
          refine va_get (D := D) (ci := 10) (v := .int (nI ((sx_onTape + 1) + 1))) (C := RX11) (T := TX11) (N := 20) hx hb hts is_put_X11 hown hK hP 0 rfl rfl 13 (by decide) (hts (.fieldLink RX11 161 "SaltStreet" "onTape" "I") (List.mem_of_getElem? (i := 1) rfl)) (fun _ h9 => h9) rfl dX11_putOnTape_35 ?_
          refine lv_iconst (v := 1) hx hb dX11_putOnTape_38 (by decide) ?_
          refine lv_iadd hx hb dX11_putOnTape_39 ?_
          refine lv_ci (y := (nI (((sx_onTape + 1) + 1) + 1))) (nI_add _ _) ?_
          refine va_put (D := D) (ci := 10) (v := .int (nI (((sx_onTape + 1) + 1) + 1))) (ty := .int) (C := RX11) (T := TX11) (N := 20) hx hb hts is_put_X11 tyX11 tyX11_ok nmX11 hown hK hP hD hS 0 rfl rfl 13 (by decide) (hts (.fieldLink RX11 161 "SaltStreet" "onTape" "I") (List.mem_of_getElem? (i := 1) rfl)) (fun _ h9 => h9) rfl (by decide +kernel) rfl rfl (Nat.le_of_ble_eq_true rfl) dX11_putOnTape_40 (fun H locs hP hD hS => ?_)
          have hP : va_P D vwCl [(xa 0, .inr (10, [.ref (xa 1), .ref (xa 2), .ref (na 0), .ref (pa 0), .ref (xa 3), .ref (na 1), .ref (na 2), .ref (xa 4), .ref (xa 5), .ref (xa 6), .ref (xa 7), .ref (xa 8), .ref (xa 9), .int (nI (((sx_onTape + 1) + 1) + 1)), .int (nI sx_marked), .int sx_status, .long sx_top, .long sx_bottom, .int sx_fault, .int sx_faultPlace])), (xa 1, .inl (kc 0, 900, .inl f45))] H := hP
          have hD : va_D A [(xa 0, .inr (10, [.ref (xa 1), .ref (xa 2), .ref (na 0), .ref (pa 0), .ref (xa 3), .ref (na 1), .ref (na 2), .ref (xa 4), .ref (xa 5), .ref (xa 6), .ref (xa 7), .ref (xa 8), .ref (xa 9), .int (nI (((sx_onTape + 1) + 1) + 1)), .int (nI sx_marked), .int sx_status, .long sx_top, .long sx_bottom, .int sx_fault, .int sx_faultPlace])), (xa 1, .inl (kc 0, 900, .inl f45))] := hD
          refine lv_iinc (v := (-8)) (lv' := [(2, .int (-8)), (0, .ref (xa 0)), (1, .int a0)]) hx hb dX11_putOnTape_43 hl (k := 0) rfl (by decide) (by decide) rfl (fun ls hl => ?_)
          refine lv_goto (tgt := 3) hx hb dX11_putOnTape_46 (by decide) ?_
          refine lv_iload_n hx hb dX11_putOnTape_3 rfl (lv_at hl 0 rfl) ?_
          refine lv_if_lt (tgt := 49) hx hb dX11_putOnTape_4 (by decide) (fun _ => ?_) (fun h => absurd (by decide) h)
          have hP9 := hP.sub (ws' := [(xa 0, .inr (10, [.ref (xa 1), .ref (xa 2), .ref (na 0), .ref (pa 0), .ref (xa 3), .ref (na 1), .ref (na 2), .ref (xa 4), .ref (xa 5), .ref (xa 6), .ref (xa 7), .ref (xa 8), .ref (xa 9), .int (nI (((sx_onTape + 1) + 1) + 1)), .int (nI sx_marked), .int sx_status, .long sx_top, .long sx_bottom, .int sx_fault, .int sx_faultPlace])), (xa 1, .inl (kc 0, 900, .inl f45))]) [0, 1] rfl
          have hD9 := hD.sub (ws' := [(xa 0, .inr (10, [.ref (xa 1), .ref (xa 2), .ref (na 0), .ref (pa 0), .ref (xa 3), .ref (na 1), .ref (na 2), .ref (xa 4), .ref (xa 5), .ref (xa 6), .ref (xa 7), .ref (xa 8), .ref (xa 9), .int (nI (((sx_onTape + 1) + 1) + 1)), .int (nI sx_marked), .int sx_status, .long sx_top, .long sx_bottom, .int sx_fault, .int sx_faultPlace])), (xa 1, .inl (kc 0, 900, .inl f45))]) [0, 1] (by decide) rfl
          exact W.vret hx hb hr (fun t9 ht hW => ⟨⟨(), rfl, trivial, (((sx_onTape + 1) + 1) + 1), f45, by omega, by rw [ht]; exact hP9, hD9⟩, hS.F ht⟩) hS.2.2 dX11_putOnTape_49
    · have nc33 := Nat.not_le.mp (fun q => c33 ((nI_leI (a := 900) (b := (sx_onTape + 1)) (by omega) (by omega)).mpr q))
      refine lv_aload_n hx hb dX11_putOnTape_17 rfl (lv_at hl 1 rfl) ?_
      refine va_get (D := D) (ci := 10) (v := .ref (xa 1)) (C := RX11) (T := TX11) (N := 20) hx hb hts is_put_X11 hown hK hP 0 rfl rfl 0 (by decide) (hts (.fieldLink RX11 9 "SaltStreet" "tape" "[I") (List.mem_of_getElem? (i := 2) rfl)) (fun _ h9 => h9) rfl dX11_putOnTape_18 ?_
      refine lv_aload_n hx hb dX11_putOnTape_21 rfl (lv_at hl 1 rfl) ?_
      refine va_get (D := D) (ci := 10) (v := .int (nI (sx_onTape + 1))) (C := RX11) (T := TX11) (N := 20) hx hb hts is_put_X11 hown hK hP 0 rfl rfl 13 (by decide) (hts (.fieldLink RX11 161 "SaltStreet" "onTape" "I") (List.mem_of_getElem? (i := 1) rfl)) (fun _ h9 => h9) rfl dX11_putOnTape_22 ?_
      refine lv_iload_n hx hb dX11_putOnTape_25 rfl (lv_at hl 2 rfl) ?_
      refine lv_iload_n hx hb dX11_putOnTape_26 rfl (lv_at hl 0 rfl) ?_
      refine lv_iushr hx hb dX11_putOnTape_27 rfl ?_
      refine lv_topi (fun z46 _ => ?_)
      refine lv_sipush (v := 255) hx hb dX11_putOnTape_28 (by decide) ?_
      refine lv_iand hx hb dX11_putOnTape_31 ?_
      refine lv_topi (fun z47 _ => ?_)
      refine va_iast hx hb hK hP hD hS 1 0 (f := f32) rfl rfl (vp_in_nI (by omega) (by decide)) dX11_putOnTape_32 (fun H locs hP hD hS => ?_)
      have hP : va_P D vwCl [(xa 0, .inr (10, [.ref (xa 1), .ref (xa 2), .ref (na 0), .ref (pa 0), .ref (xa 3), .ref (na 1), .ref (na 2), .ref (xa 4), .ref (xa 5), .ref (xa 6), .ref (xa 7), .ref (xa 8), .ref (xa 9), .int (nI (sx_onTape + 1)), .int (nI sx_marked), .int sx_status, .long sx_top, .long sx_bottom, .int sx_fault, .int sx_faultPlace])), (xa 1, .inl (kc 0, 900, .inl (upd f32 ((nI (sx_onTape + 1)) : Int32).toNatClampNeg z47)))] H := hP
      have hD : va_D A [(xa 0, .inr (10, [.ref (xa 1), .ref (xa 2), .ref (na 0), .ref (pa 0), .ref (xa 3), .ref (na 1), .ref (na 2), .ref (xa 4), .ref (xa 5), .ref (xa 6), .ref (xa 7), .ref (xa 8), .ref (xa 9), .int (nI (sx_onTape + 1)), .int (nI sx_marked), .int sx_status, .long sx_top, .long sx_bottom, .int sx_fault, .int sx_faultPlace])), (xa 1, .inl (kc 0, 900, .inl (upd f32 ((nI (sx_onTape + 1)) : Int32).toNatClampNeg z47)))] := hD
      generalize (upd f32 ((nI (sx_onTape + 1)) : Int32).toNatClampNeg z47) = f48 at hP hD
      refine lv_aload_n hx hb dX11_putOnTape_33 rfl (lv_at hl 1 rfl) ?_
      refine lv_dup hx hb dX11_putOnTape_34 rfl ?_
      refine va_get (D := D) (ci := 10) (v := .int (nI (sx_onTape + 1))) (C := RX11) (T := TX11) (N := 20) hx hb hts is_put_X11 hown hK hP 0 rfl rfl 13 (by decide) (hts (.fieldLink RX11 161 "SaltStreet" "onTape" "I") (List.mem_of_getElem? (i := 1) rfl)) (fun _ h9 => h9) rfl dX11_putOnTape_35 ?_
      refine lv_iconst (v := 1) hx hb dX11_putOnTape_38 (by decide) ?_
      refine lv_iadd hx hb dX11_putOnTape_39 ?_
      refine lv_ci (y := (nI ((sx_onTape + 1) + 1))) (nI_add _ _) ?_
      refine va_put (D := D) (ci := 10) (v := .int (nI ((sx_onTape + 1) + 1))) (ty := .int) (C := RX11) (T := TX11) (N := 20) hx hb hts is_put_X11 tyX11 tyX11_ok nmX11 hown hK hP hD hS 0 rfl rfl 13 (by decide) (hts (.fieldLink RX11 161 "SaltStreet" "onTape" "I") (List.mem_of_getElem? (i := 1) rfl)) (fun _ h9 => h9) rfl (by decide +kernel) rfl rfl (Nat.le_of_ble_eq_true rfl) dX11_putOnTape_40 (fun H locs hP hD hS => ?_)
      have hP : va_P D vwCl [(xa 0, .inr (10, [.ref (xa 1), .ref (xa 2), .ref (na 0), .ref (pa 0), .ref (xa 3), .ref (na 1), .ref (na 2), .ref (xa 4), .ref (xa 5), .ref (xa 6), .ref (xa 7), .ref (xa 8), .ref (xa 9), .int (nI ((sx_onTape + 1) + 1)), .int (nI sx_marked), .int sx_status, .long sx_top, .long sx_bottom, .int sx_fault, .int sx_faultPlace])), (xa 1, .inl (kc 0, 900, .inl f48))] H := hP
      have hD : va_D A [(xa 0, .inr (10, [.ref (xa 1), .ref (xa 2), .ref (na 0), .ref (pa 0), .ref (xa 3), .ref (na 1), .ref (na 2), .ref (xa 4), .ref (xa 5), .ref (xa 6), .ref (xa 7), .ref (xa 8), .ref (xa 9), .int (nI ((sx_onTape + 1) + 1)), .int (nI sx_marked), .int sx_status, .long sx_top, .long sx_bottom, .int sx_fault, .int sx_faultPlace])), (xa 1, .inl (kc 0, 900, .inl f48))] := hD
      refine lv_iinc (v := 8) (lv' := [(2, .int 8), (0, .ref (xa 0)), (1, .int a0)]) hx hb dX11_putOnTape_43 hl (k := 0) rfl (by decide) (by decide) rfl (fun ls hl => ?_)
      refine lv_goto (tgt := 3) hx hb dX11_putOnTape_46 (by decide) ?_
      refine lv_iload_n hx hb dX11_putOnTape_3 rfl (lv_at hl 0 rfl) ?_
      refine lv_if_lt (tgt := 49) hx hb dX11_putOnTape_4 (by decide) (fun h => absurd h (by decide)) (fun _ => ?_)
      refine lv_aload_n hx hb dX11_putOnTape_7 rfl (lv_at hl 1 rfl) ?_
      refine va_get (D := D) (ci := 10) (v := .int (nI ((sx_onTape + 1) + 1))) (C := RX11) (T := TX11) (N := 20) hx hb hts is_put_X11 hown hK hP 0 rfl rfl 13 (by decide) (hts (.fieldLink RX11 161 "SaltStreet" "onTape" "I") (List.mem_of_getElem? (i := 1) rfl)) (fun _ h9 => h9) rfl dX11_putOnTape_8 ?_
      refine lv_sipush (v := 900) hx hb dX11_putOnTape_11 (by decide) ?_
      refine lv_icmp_ge (tgt := 43) hx hb dX11_putOnTape_14 (by decide) (fun c49 => ?_) (fun c49 => ?_)
      · have nc49 := (nI_leI (a := 900) (b := ((sx_onTape + 1) + 1)) (by omega) (by omega)).mp c49
        refine lv_iinc (v := 0) (lv' := [(2, .int 0), (0, .ref (xa 0)), (1, .int a0)]) hx hb dX11_putOnTape_43 hl (k := 0) rfl (by decide) (by decide) rfl (fun ls hl => ?_)
        refine lv_goto (tgt := 3) hx hb dX11_putOnTape_46 (by decide) ?_
        refine lv_iload_n hx hb dX11_putOnTape_3 rfl (lv_at hl 0 rfl) ?_
        refine lv_if_lt (tgt := 49) hx hb dX11_putOnTape_4 (by decide) (fun h => absurd h (by decide)) (fun _ => ?_)
        refine lv_aload_n hx hb dX11_putOnTape_7 rfl (lv_at hl 1 rfl) ?_
        refine va_get (D := D) (ci := 10) (v := .int (nI ((sx_onTape + 1) + 1))) (C := RX11) (T := TX11) (N := 20) hx hb hts is_put_X11 hown hK hP 0 rfl rfl 13 (by decide) (hts (.fieldLink RX11 161 "SaltStreet" "onTape" "I") (List.mem_of_getElem? (i := 1) rfl)) (fun _ h9 => h9) rfl dX11_putOnTape_8 ?_
        refine lv_sipush (v := 900) hx hb dX11_putOnTape_11 (by decide) ?_
        refine lv_icmp_ge (tgt := 43) hx hb dX11_putOnTape_14 (by decide) (fun c50 => ?_) (fun c50 => ?_)
        · have nc50 := (nI_leI (a := 900) (b := ((sx_onTape + 1) + 1)) (by omega) (by omega)).mp c50
          refine lv_iinc (v := (-8)) (lv' := [(2, .int (-8)), (0, .ref (xa 0)), (1, .int a0)]) hx hb dX11_putOnTape_43 hl (k := 0) rfl (by decide) (by decide) rfl (fun ls hl => ?_)
          refine lv_goto (tgt := 3) hx hb dX11_putOnTape_46 (by decide) ?_
          refine lv_iload_n hx hb dX11_putOnTape_3 rfl (lv_at hl 0 rfl) ?_
          refine lv_if_lt (tgt := 49) hx hb dX11_putOnTape_4 (by decide) (fun _ => ?_) (fun h => absurd (by decide) h)
          have hP9 := hP.sub (ws' := [(xa 0, .inr (10, [.ref (xa 1), .ref (xa 2), .ref (na 0), .ref (pa 0), .ref (xa 3), .ref (na 1), .ref (na 2), .ref (xa 4), .ref (xa 5), .ref (xa 6), .ref (xa 7), .ref (xa 8), .ref (xa 9), .int (nI ((sx_onTape + 1) + 1)), .int (nI sx_marked), .int sx_status, .long sx_top, .long sx_bottom, .int sx_fault, .int sx_faultPlace])), (xa 1, .inl (kc 0, 900, .inl f48))]) [0, 1] rfl
          have hD9 := hD.sub (ws' := [(xa 0, .inr (10, [.ref (xa 1), .ref (xa 2), .ref (na 0), .ref (pa 0), .ref (xa 3), .ref (na 1), .ref (na 2), .ref (xa 4), .ref (xa 5), .ref (xa 6), .ref (xa 7), .ref (xa 8), .ref (xa 9), .int (nI ((sx_onTape + 1) + 1)), .int (nI sx_marked), .int sx_status, .long sx_top, .long sx_bottom, .int sx_fault, .int sx_faultPlace])), (xa 1, .inl (kc 0, 900, .inl f48))]) [0, 1] (by decide) rfl
          exact W.vret hx hb hr (fun t9 ht hW => ⟨⟨(), rfl, trivial, ((sx_onTape + 1) + 1), f48, by omega, by rw [ht]; exact hP9, hD9⟩, hS.F ht⟩) hS.2.2 dX11_putOnTape_49
        · have nc50 := Nat.not_le.mp (fun q => c50 ((nI_leI (a := 900) (b := ((sx_onTape + 1) + 1)) (by omega) (by omega)).mpr q))
          refine lv_aload_n hx hb dX11_putOnTape_17 rfl (lv_at hl 1 rfl) ?_
          refine va_get (D := D) (ci := 10) (v := .ref (xa 1)) (C := RX11) (T := TX11) (N := 20) hx hb hts is_put_X11 hown hK hP 0 rfl rfl 0 (by decide) (hts (.fieldLink RX11 9 "SaltStreet" "tape" "[I") (List.mem_of_getElem? (i := 2) rfl)) (fun _ h9 => h9) rfl dX11_putOnTape_18 ?_
          refine lv_aload_n hx hb dX11_putOnTape_21 rfl (lv_at hl 1 rfl) ?_
          refine va_get (D := D) (ci := 10) (v := .int (nI ((sx_onTape + 1) + 1))) (C := RX11) (T := TX11) (N := 20) hx hb hts is_put_X11 hown hK hP 0 rfl rfl 13 (by decide) (hts (.fieldLink RX11 161 "SaltStreet" "onTape" "I") (List.mem_of_getElem? (i := 1) rfl)) (fun _ h9 => h9) rfl dX11_putOnTape_22 ?_
          refine lv_iload_n hx hb dX11_putOnTape_25 rfl (lv_at hl 2 rfl) ?_
          refine lv_iload_n hx hb dX11_putOnTape_26 rfl (lv_at hl 0 rfl) ?_
          refine lv_iushr hx hb dX11_putOnTape_27 rfl ?_
          refine lv_topi (fun z51 _ => ?_)
          refine lv_sipush (v := 255) hx hb dX11_putOnTape_28 (by decide) ?_
          refine lv_iand hx hb dX11_putOnTape_31 ?_
          refine lv_topi (fun z52 _ => ?_)
          refine va_iast hx hb hK hP hD hS 1 0 (f := f48) rfl rfl (vp_in_nI (by omega) (by decide)) dX11_putOnTape_32 (fun H locs hP hD hS => ?_)
          have hP : va_P D vwCl [(xa 0, .inr (10, [.ref (xa 1), .ref (xa 2), .ref (na 0), .ref (pa 0), .ref (xa 3), .ref (na 1), .ref (na 2), .ref (xa 4), .ref (xa 5), .ref (xa 6), .ref (xa 7), .ref (xa 8), .ref (xa 9), .int (nI ((sx_onTape + 1) + 1)), .int (nI sx_marked), .int sx_status, .long sx_top, .long sx_bottom, .int sx_fault, .int sx_faultPlace])), (xa 1, .inl (kc 0, 900, .inl (upd f48 ((nI ((sx_onTape + 1) + 1)) : Int32).toNatClampNeg z52)))] H := hP
          have hD : va_D A [(xa 0, .inr (10, [.ref (xa 1), .ref (xa 2), .ref (na 0), .ref (pa 0), .ref (xa 3), .ref (na 1), .ref (na 2), .ref (xa 4), .ref (xa 5), .ref (xa 6), .ref (xa 7), .ref (xa 8), .ref (xa 9), .int (nI ((sx_onTape + 1) + 1)), .int (nI sx_marked), .int sx_status, .long sx_top, .long sx_bottom, .int sx_fault, .int sx_faultPlace])), (xa 1, .inl (kc 0, 900, .inl (upd f48 ((nI ((sx_onTape + 1) + 1)) : Int32).toNatClampNeg z52)))] := hD
          generalize (upd f48 ((nI ((sx_onTape + 1) + 1)) : Int32).toNatClampNeg z52) = f53 at hP hD
          refine lv_aload_n hx hb dX11_putOnTape_33 rfl (lv_at hl 1 rfl) ?_
          refine lv_dup hx hb dX11_putOnTape_34 rfl ?_
          refine va_get (D := D) (ci := 10) (v := .int (nI ((sx_onTape + 1) + 1))) (C := RX11) (T := TX11) (N := 20) hx hb hts is_put_X11 hown hK hP 0 rfl rfl 13 (by decide) (hts (.fieldLink RX11 161 "SaltStreet" "onTape" "I") (List.mem_of_getElem? (i := 1) rfl)) (fun _ h9 => h9) rfl dX11_putOnTape_35 ?_
          refine lv_iconst (v := 1) hx hb dX11_putOnTape_38 (by decide) ?_
          refine lv_iadd hx hb dX11_putOnTape_39 ?_
          refine lv_ci (y := (nI (((sx_onTape + 1) + 1) + 1))) (nI_add _ _) ?_
          refine va_put (D := D) (ci := 10) (v := .int (nI (((sx_onTape + 1) + 1) + 1))) (ty := .int) (C := RX11) (T := TX11) (N := 20) hx hb hts is_put_X11 tyX11 tyX11_ok nmX11 hown hK hP hD hS 0 rfl rfl 13 (by decide) (hts (.fieldLink RX11 161 "SaltStreet" "onTape" "I") (List.mem_of_getElem? (i := 1) rfl)) (fun _ h9 => h9) rfl (by decide +kernel) rfl rfl (Nat.le_of_ble_eq_true rfl) dX11_putOnTape_40 (fun H locs hP hD hS => ?_)
          have hP : va_P D vwCl [(xa 0, .inr (10, [.ref (xa 1), .ref (xa 2), .ref (na 0), .ref (pa 0), .ref (xa 3), .ref (na 1), .ref (na 2), .ref (xa 4), .ref (xa 5), .ref (xa 6), .ref (xa 7), .ref (xa 8), .ref (xa 9), .int (nI (((sx_onTape + 1) + 1) + 1)), .int (nI sx_marked), .int sx_status, .long sx_top, .long sx_bottom, .int sx_fault, .int sx_faultPlace])), (xa 1, .inl (kc 0, 900, .inl f53))] H := hP
          have hD : va_D A [(xa 0, .inr (10, [.ref (xa 1), .ref (xa 2), .ref (na 0), .ref (pa 0), .ref (xa 3), .ref (na 1), .ref (na 2), .ref (xa 4), .ref (xa 5), .ref (xa 6), .ref (xa 7), .ref (xa 8), .ref (xa 9), .int (nI (((sx_onTape + 1) + 1) + 1)), .int (nI sx_marked), .int sx_status, .long sx_top, .long sx_bottom, .int sx_fault, .int sx_faultPlace])), (xa 1, .inl (kc 0, 900, .inl f53))] := hD
          refine lv_iinc (v := (-8)) (lv' := [(2, .int (-8)), (0, .ref (xa 0)), (1, .int a0)]) hx hb dX11_putOnTape_43 hl (k := 0) rfl (by decide) (by decide) rfl (fun ls hl => ?_)
          refine lv_goto (tgt := 3) hx hb dX11_putOnTape_46 (by decide) ?_
          refine lv_iload_n hx hb dX11_putOnTape_3 rfl (lv_at hl 0 rfl) ?_
          refine lv_if_lt (tgt := 49) hx hb dX11_putOnTape_4 (by decide) (fun _ => ?_) (fun h => absurd (by decide) h)
          have hP9 := hP.sub (ws' := [(xa 0, .inr (10, [.ref (xa 1), .ref (xa 2), .ref (na 0), .ref (pa 0), .ref (xa 3), .ref (na 1), .ref (na 2), .ref (xa 4), .ref (xa 5), .ref (xa 6), .ref (xa 7), .ref (xa 8), .ref (xa 9), .int (nI (((sx_onTape + 1) + 1) + 1)), .int (nI sx_marked), .int sx_status, .long sx_top, .long sx_bottom, .int sx_fault, .int sx_faultPlace])), (xa 1, .inl (kc 0, 900, .inl f53))]) [0, 1] rfl
          have hD9 := hD.sub (ws' := [(xa 0, .inr (10, [.ref (xa 1), .ref (xa 2), .ref (na 0), .ref (pa 0), .ref (xa 3), .ref (na 1), .ref (na 2), .ref (xa 4), .ref (xa 5), .ref (xa 6), .ref (xa 7), .ref (xa 8), .ref (xa 9), .int (nI (((sx_onTape + 1) + 1) + 1)), .int (nI sx_marked), .int sx_status, .long sx_top, .long sx_bottom, .int sx_fault, .int sx_faultPlace])), (xa 1, .inl (kc 0, 900, .inl f53))]) [0, 1] (by decide) rfl
          exact W.vret hx hb hr (fun t9 ht hW => ⟨⟨(), rfl, trivial, (((sx_onTape + 1) + 1) + 1), f53, by omega, by rw [ht]; exact hP9, hD9⟩, hS.F ht⟩) hS.2.2 dX11_putOnTape_49
      · have nc49 := Nat.not_le.mp (fun q => c49 ((nI_leI (a := 900) (b := ((sx_onTape + 1) + 1)) (by omega) (by omega)).mpr q))
        refine lv_aload_n hx hb dX11_putOnTape_17 rfl (lv_at hl 1 rfl) ?_
        refine va_get (D := D) (ci := 10) (v := .ref (xa 1)) (C := RX11) (T := TX11) (N := 20) hx hb hts is_put_X11 hown hK hP 0 rfl rfl 0 (by decide) (hts (.fieldLink RX11 9 "SaltStreet" "tape" "[I") (List.mem_of_getElem? (i := 2) rfl)) (fun _ h9 => h9) rfl dX11_putOnTape_18 ?_
        refine lv_aload_n hx hb dX11_putOnTape_21 rfl (lv_at hl 1 rfl) ?_
        refine va_get (D := D) (ci := 10) (v := .int (nI ((sx_onTape + 1) + 1))) (C := RX11) (T := TX11) (N := 20) hx hb hts is_put_X11 hown hK hP 0 rfl rfl 13 (by decide) (hts (.fieldLink RX11 161 "SaltStreet" "onTape" "I") (List.mem_of_getElem? (i := 1) rfl)) (fun _ h9 => h9) rfl dX11_putOnTape_22 ?_
        refine lv_iload_n hx hb dX11_putOnTape_25 rfl (lv_at hl 2 rfl) ?_
        refine lv_iload_n hx hb dX11_putOnTape_26 rfl (lv_at hl 0 rfl) ?_
        refine lv_iushr hx hb dX11_putOnTape_27 rfl ?_
        refine lv_topi (fun z54 _ => ?_)
        refine lv_sipush (v := 255) hx hb dX11_putOnTape_28 (by decide) ?_
        refine lv_iand hx hb dX11_putOnTape_31 ?_
        refine lv_topi (fun z55 _ => ?_)
        refine va_iast hx hb hK hP hD hS 1 0 (f := f48) rfl rfl (vp_in_nI (by omega) (by decide)) dX11_putOnTape_32 (fun H locs hP hD hS => ?_)
        have hP : va_P D vwCl [(xa 0, .inr (10, [.ref (xa 1), .ref (xa 2), .ref (na 0), .ref (pa 0), .ref (xa 3), .ref (na 1), .ref (na 2), .ref (xa 4), .ref (xa 5), .ref (xa 6), .ref (xa 7), .ref (xa 8), .ref (xa 9), .int (nI ((sx_onTape + 1) + 1)), .int (nI sx_marked), .int sx_status, .long sx_top, .long sx_bottom, .int sx_fault, .int sx_faultPlace])), (xa 1, .inl (kc 0, 900, .inl (upd f48 ((nI ((sx_onTape + 1) + 1)) : Int32).toNatClampNeg z55)))] H := hP
        have hD : va_D A [(xa 0, .inr (10, [.ref (xa 1), .ref (xa 2), .ref (na 0), .ref (pa 0), .ref (xa 3), .ref (na 1), .ref (na 2), .ref (xa 4), .ref (xa 5), .ref (xa 6), .ref (xa 7), .ref (xa 8), .ref (xa 9), .int (nI ((sx_onTape + 1) + 1)), .int (nI sx_marked), .int sx_status, .long sx_top, .long sx_bottom, .int sx_fault, .int sx_faultPlace])), (xa 1, .inl (kc 0, 900, .inl (upd f48 ((nI ((sx_onTape + 1) + 1)) : Int32).toNatClampNeg z55)))] := hD
        generalize (upd f48 ((nI ((sx_onTape + 1) + 1)) : Int32).toNatClampNeg z55) = f56 at hP hD
        refine lv_aload_n hx hb dX11_putOnTape_33 rfl (lv_at hl 1 rfl) ?_
        refine lv_dup hx hb dX11_putOnTape_34 rfl ?_
        refine va_get (D := D) (ci := 10) (v := .int (nI ((sx_onTape + 1) + 1))) (C := RX11) (T := TX11) (N := 20) hx hb hts is_put_X11 hown hK hP 0 rfl rfl 13 (by decide) (hts (.fieldLink RX11 161 "SaltStreet" "onTape" "I") (List.mem_of_getElem? (i := 1) rfl)) (fun _ h9 => h9) rfl dX11_putOnTape_35 ?_
        refine lv_iconst (v := 1) hx hb dX11_putOnTape_38 (by decide) ?_
        refine lv_iadd hx hb dX11_putOnTape_39 ?_
        refine lv_ci (y := (nI (((sx_onTape + 1) + 1) + 1))) (nI_add _ _) ?_
        refine va_put (D := D) (ci := 10) (v := .int (nI (((sx_onTape + 1) + 1) + 1))) (ty := .int) (C := RX11) (T := TX11) (N := 20) hx hb hts is_put_X11 tyX11 tyX11_ok nmX11 hown hK hP hD hS 0 rfl rfl 13 (by decide) (hts (.fieldLink RX11 161 "SaltStreet" "onTape" "I") (List.mem_of_getElem? (i := 1) rfl)) (fun _ h9 => h9) rfl (by decide +kernel) rfl rfl (Nat.le_of_ble_eq_true rfl) dX11_putOnTape_40 (fun H locs hP hD hS => ?_)
        have hP : va_P D vwCl [(xa 0, .inr (10, [.ref (xa 1), .ref (xa 2), .ref (na 0), .ref (pa 0), .ref (xa 3), .ref (na 1), .ref (na 2), .ref (xa 4), .ref (xa 5), .ref (xa 6), .ref (xa 7), .ref (xa 8), .ref (xa 9), .int (nI (((sx_onTape + 1) + 1) + 1)), .int (nI sx_marked), .int sx_status, .long sx_top, .long sx_bottom, .int sx_fault, .int sx_faultPlace])), (xa 1, .inl (kc 0, 900, .inl f56))] H := hP
        have hD : va_D A [(xa 0, .inr (10, [.ref (xa 1), .ref (xa 2), .ref (na 0), .ref (pa 0), .ref (xa 3), .ref (na 1), .ref (na 2), .ref (xa 4), .ref (xa 5), .ref (xa 6), .ref (xa 7), .ref (xa 8), .ref (xa 9), .int (nI (((sx_onTape + 1) + 1) + 1)), .int (nI sx_marked), .int sx_status, .long sx_top, .long sx_bottom, .int sx_fault, .int sx_faultPlace])), (xa 1, .inl (kc 0, 900, .inl f56))] := hD
        refine lv_iinc (v := 0) (lv' := [(2, .int 0), (0, .ref (xa 0)), (1, .int a0)]) hx hb dX11_putOnTape_43 hl (k := 0) rfl (by decide) (by decide) rfl (fun ls hl => ?_)
        refine lv_goto (tgt := 3) hx hb dX11_putOnTape_46 (by decide) ?_
        refine lv_iload_n hx hb dX11_putOnTape_3 rfl (lv_at hl 0 rfl) ?_
        refine lv_if_lt (tgt := 49) hx hb dX11_putOnTape_4 (by decide) (fun h => absurd h (by decide)) (fun _ => ?_)
        refine lv_aload_n hx hb dX11_putOnTape_7 rfl (lv_at hl 1 rfl) ?_
        refine va_get (D := D) (ci := 10) (v := .int (nI (((sx_onTape + 1) + 1) + 1))) (C := RX11) (T := TX11) (N := 20) hx hb hts is_put_X11 hown hK hP 0 rfl rfl 13 (by decide) (hts (.fieldLink RX11 161 "SaltStreet" "onTape" "I") (List.mem_of_getElem? (i := 1) rfl)) (fun _ h9 => h9) rfl dX11_putOnTape_8 ?_
        refine lv_sipush (v := 900) hx hb dX11_putOnTape_11 (by decide) ?_
        refine lv_icmp_ge (tgt := 43) hx hb dX11_putOnTape_14 (by decide) (fun c57 => ?_) (fun c57 => ?_)
        · have nc57 := (nI_leI (a := 900) (b := (((sx_onTape + 1) + 1) + 1)) (by omega) (by omega)).mp c57
          refine lv_iinc (v := (-8)) (lv' := [(2, .int (-8)), (0, .ref (xa 0)), (1, .int a0)]) hx hb dX11_putOnTape_43 hl (k := 0) rfl (by decide) (by decide) rfl (fun ls hl => ?_)
          refine lv_goto (tgt := 3) hx hb dX11_putOnTape_46 (by decide) ?_
          refine lv_iload_n hx hb dX11_putOnTape_3 rfl (lv_at hl 0 rfl) ?_
          refine lv_if_lt (tgt := 49) hx hb dX11_putOnTape_4 (by decide) (fun _ => ?_) (fun h => absurd (by decide) h)
          have hP9 := hP.sub (ws' := [(xa 0, .inr (10, [.ref (xa 1), .ref (xa 2), .ref (na 0), .ref (pa 0), .ref (xa 3), .ref (na 1), .ref (na 2), .ref (xa 4), .ref (xa 5), .ref (xa 6), .ref (xa 7), .ref (xa 8), .ref (xa 9), .int (nI (((sx_onTape + 1) + 1) + 1)), .int (nI sx_marked), .int sx_status, .long sx_top, .long sx_bottom, .int sx_fault, .int sx_faultPlace])), (xa 1, .inl (kc 0, 900, .inl f56))]) [0, 1] rfl
          have hD9 := hD.sub (ws' := [(xa 0, .inr (10, [.ref (xa 1), .ref (xa 2), .ref (na 0), .ref (pa 0), .ref (xa 3), .ref (na 1), .ref (na 2), .ref (xa 4), .ref (xa 5), .ref (xa 6), .ref (xa 7), .ref (xa 8), .ref (xa 9), .int (nI (((sx_onTape + 1) + 1) + 1)), .int (nI sx_marked), .int sx_status, .long sx_top, .long sx_bottom, .int sx_fault, .int sx_faultPlace])), (xa 1, .inl (kc 0, 900, .inl f56))]) [0, 1] (by decide) rfl
          exact W.vret hx hb hr (fun t9 ht hW => ⟨⟨(), rfl, trivial, (((sx_onTape + 1) + 1) + 1), f56, by omega, by rw [ht]; exact hP9, hD9⟩, hS.F ht⟩) hS.2.2 dX11_putOnTape_49
        · have nc57 := Nat.not_le.mp (fun q => c57 ((nI_leI (a := 900) (b := (((sx_onTape + 1) + 1) + 1)) (by omega) (by omega)).mpr q))
          refine lv_aload_n hx hb dX11_putOnTape_17 rfl (lv_at hl 1 rfl) ?_
          refine va_get (D := D) (ci := 10) (v := .ref (xa 1)) (C := RX11) (T := TX11) (N := 20) hx hb hts is_put_X11 hown hK hP 0 rfl rfl 0 (by decide) (hts (.fieldLink RX11 9 "SaltStreet" "tape" "[I") (List.mem_of_getElem? (i := 2) rfl)) (fun _ h9 => h9) rfl dX11_putOnTape_18 ?_
          refine lv_aload_n hx hb dX11_putOnTape_21 rfl (lv_at hl 1 rfl) ?_
          refine va_get (D := D) (ci := 10) (v := .int (nI (((sx_onTape + 1) + 1) + 1))) (C := RX11) (T := TX11) (N := 20) hx hb hts is_put_X11 hown hK hP 0 rfl rfl 13 (by decide) (hts (.fieldLink RX11 161 "SaltStreet" "onTape" "I") (List.mem_of_getElem? (i := 1) rfl)) (fun _ h9 => h9) rfl dX11_putOnTape_22 ?_
          refine lv_iload_n hx hb dX11_putOnTape_25 rfl (lv_at hl 2 rfl) ?_
          refine lv_iload_n hx hb dX11_putOnTape_26 rfl (lv_at hl 0 rfl) ?_
          refine lv_iushr hx hb dX11_putOnTape_27 rfl ?_
          refine lv_topi (fun z58 _ => ?_)
          refine lv_sipush (v := 255) hx hb dX11_putOnTape_28 (by decide) ?_
          refine lv_iand hx hb dX11_putOnTape_31 ?_
          refine lv_topi (fun z59 _ => ?_)
          refine va_iast hx hb hK hP hD hS 1 0 (f := f56) rfl rfl (vp_in_nI (by omega) (by decide)) dX11_putOnTape_32 (fun H locs hP hD hS => ?_)
          have hP : va_P D vwCl [(xa 0, .inr (10, [.ref (xa 1), .ref (xa 2), .ref (na 0), .ref (pa 0), .ref (xa 3), .ref (na 1), .ref (na 2), .ref (xa 4), .ref (xa 5), .ref (xa 6), .ref (xa 7), .ref (xa 8), .ref (xa 9), .int (nI (((sx_onTape + 1) + 1) + 1)), .int (nI sx_marked), .int sx_status, .long sx_top, .long sx_bottom, .int sx_fault, .int sx_faultPlace])), (xa 1, .inl (kc 0, 900, .inl (upd f56 ((nI (((sx_onTape + 1) + 1) + 1)) : Int32).toNatClampNeg z59)))] H := hP
          have hD : va_D A [(xa 0, .inr (10, [.ref (xa 1), .ref (xa 2), .ref (na 0), .ref (pa 0), .ref (xa 3), .ref (na 1), .ref (na 2), .ref (xa 4), .ref (xa 5), .ref (xa 6), .ref (xa 7), .ref (xa 8), .ref (xa 9), .int (nI (((sx_onTape + 1) + 1) + 1)), .int (nI sx_marked), .int sx_status, .long sx_top, .long sx_bottom, .int sx_fault, .int sx_faultPlace])), (xa 1, .inl (kc 0, 900, .inl (upd f56 ((nI (((sx_onTape + 1) + 1) + 1)) : Int32).toNatClampNeg z59)))] := hD
          generalize (upd f56 ((nI (((sx_onTape + 1) + 1) + 1)) : Int32).toNatClampNeg z59) = f60 at hP hD
          refine lv_aload_n hx hb dX11_putOnTape_33 rfl (lv_at hl 1 rfl) ?_
          refine lv_dup hx hb dX11_putOnTape_34 rfl ?_
          refine va_get (D := D) (ci := 10) (v := .int (nI (((sx_onTape + 1) + 1) + 1))) (C := RX11) (T := TX11) (N := 20) hx hb hts is_put_X11 hown hK hP 0 rfl rfl 13 (by decide) (hts (.fieldLink RX11 161 "SaltStreet" "onTape" "I") (List.mem_of_getElem? (i := 1) rfl)) (fun _ h9 => h9) rfl dX11_putOnTape_35 ?_
          refine lv_iconst (v := 1) hx hb dX11_putOnTape_38 (by decide) ?_
          refine lv_iadd hx hb dX11_putOnTape_39 ?_
          refine lv_ci (y := (nI ((((sx_onTape + 1) + 1) + 1) + 1))) (nI_add _ _) ?_
          refine va_put (D := D) (ci := 10) (v := .int (nI ((((sx_onTape + 1) + 1) + 1) + 1))) (ty := .int) (C := RX11) (T := TX11) (N := 20) hx hb hts is_put_X11 tyX11 tyX11_ok nmX11 hown hK hP hD hS 0 rfl rfl 13 (by decide) (hts (.fieldLink RX11 161 "SaltStreet" "onTape" "I") (List.mem_of_getElem? (i := 1) rfl)) (fun _ h9 => h9) rfl (by decide +kernel) rfl rfl (Nat.le_of_ble_eq_true rfl) dX11_putOnTape_40 (fun H locs hP hD hS => ?_)
          have hP : va_P D vwCl [(xa 0, .inr (10, [.ref (xa 1), .ref (xa 2), .ref (na 0), .ref (pa 0), .ref (xa 3), .ref (na 1), .ref (na 2), .ref (xa 4), .ref (xa 5), .ref (xa 6), .ref (xa 7), .ref (xa 8), .ref (xa 9), .int (nI ((((sx_onTape + 1) + 1) + 1) + 1)), .int (nI sx_marked), .int sx_status, .long sx_top, .long sx_bottom, .int sx_fault, .int sx_faultPlace])), (xa 1, .inl (kc 0, 900, .inl f60))] H := hP
          have hD : va_D A [(xa 0, .inr (10, [.ref (xa 1), .ref (xa 2), .ref (na 0), .ref (pa 0), .ref (xa 3), .ref (na 1), .ref (na 2), .ref (xa 4), .ref (xa 5), .ref (xa 6), .ref (xa 7), .ref (xa 8), .ref (xa 9), .int (nI ((((sx_onTape + 1) + 1) + 1) + 1)), .int (nI sx_marked), .int sx_status, .long sx_top, .long sx_bottom, .int sx_fault, .int sx_faultPlace])), (xa 1, .inl (kc 0, 900, .inl f60))] := hD
          refine lv_iinc (v := (-8)) (lv' := [(2, .int (-8)), (0, .ref (xa 0)), (1, .int a0)]) hx hb dX11_putOnTape_43 hl (k := 0) rfl (by decide) (by decide) rfl (fun ls hl => ?_)
          refine lv_goto (tgt := 3) hx hb dX11_putOnTape_46 (by decide) ?_
          refine lv_iload_n hx hb dX11_putOnTape_3 rfl (lv_at hl 0 rfl) ?_
          refine lv_if_lt (tgt := 49) hx hb dX11_putOnTape_4 (by decide) (fun _ => ?_) (fun h => absurd (by decide) h)
          have hP9 := hP.sub (ws' := [(xa 0, .inr (10, [.ref (xa 1), .ref (xa 2), .ref (na 0), .ref (pa 0), .ref (xa 3), .ref (na 1), .ref (na 2), .ref (xa 4), .ref (xa 5), .ref (xa 6), .ref (xa 7), .ref (xa 8), .ref (xa 9), .int (nI ((((sx_onTape + 1) + 1) + 1) + 1)), .int (nI sx_marked), .int sx_status, .long sx_top, .long sx_bottom, .int sx_fault, .int sx_faultPlace])), (xa 1, .inl (kc 0, 900, .inl f60))]) [0, 1] rfl
          have hD9 := hD.sub (ws' := [(xa 0, .inr (10, [.ref (xa 1), .ref (xa 2), .ref (na 0), .ref (pa 0), .ref (xa 3), .ref (na 1), .ref (na 2), .ref (xa 4), .ref (xa 5), .ref (xa 6), .ref (xa 7), .ref (xa 8), .ref (xa 9), .int (nI ((((sx_onTape + 1) + 1) + 1) + 1)), .int (nI sx_marked), .int sx_status, .long sx_top, .long sx_bottom, .int sx_fault, .int sx_faultPlace])), (xa 1, .inl (kc 0, 900, .inl f60))]) [0, 1] (by decide) rfl
          exact W.vret hx hb hr (fun t9 ht hW => ⟨⟨(), rfl, trivial, ((((sx_onTape + 1) + 1) + 1) + 1), f60, by omega, by rw [ht]; exact hP9, hD9⟩, hS.F ht⟩) hS.2.2 dX11_putOnTape_49
theorem dX11_feed_0 : decode cX11_feed 0 = .ok (.aload_n 0, 1) := by decide +kernel
theorem dX11_feed_1 : decode cX11_feed 1 = .ok (.getfield 161, 3) := by decide +kernel
theorem dX11_feed_4 : decode cX11_feed 4 = .ok (.bipush 20, 2) := by decide +kernel
theorem dX11_feed_6 : decode cX11_feed 6 = .ok (.iadd, 1) := by decide +kernel
theorem dX11_feed_7 : decode cX11_feed 7 = .ok (.sipush 900, 3) := by decide +kernel
theorem dX11_feed_10 : decode cX11_feed 10 = .ok (.if_icmp .le 5, 3) := by decide +kernel
theorem dX11_feed_15 : decode cX11_feed 15 = .ok (.aload_n 0, 1) := by decide +kernel
theorem dX11_feed_16 : decode cX11_feed 16 = .ok (.iload_n 1, 1) := by decide +kernel
theorem dX11_feed_17 : decode cX11_feed 17 = .ok (.invokevirtual 164, 3) := by decide +kernel
theorem dX11_feed_20 : decode cX11_feed 20 = .ok (.aload_n 0, 1) := by decide +kernel
theorem dX11_feed_21 : decode cX11_feed 21 = .ok (.iload_n 2, 1) := by decide +kernel
theorem dX11_feed_22 : decode cX11_feed 22 = .ok (.invokevirtual 164, 3) := by decide +kernel
theorem dX11_feed_25 : decode cX11_feed 25 = .ok (.aload_n 0, 1) := by decide +kernel
theorem dX11_feed_26 : decode cX11_feed 26 = .ok (.iload_n 3, 1) := by decide +kernel
theorem dX11_feed_27 : decode cX11_feed 27 = .ok (.invokevirtual 164, 3) := by decide +kernel
theorem dX11_feed_30 : decode cX11_feed 30 = .ok (.aload_n 0, 1) := by decide +kernel
theorem dX11_feed_31 : decode cX11_feed 31 = .ok (.iload 4, 2) := by decide +kernel
theorem dX11_feed_33 : decode cX11_feed 33 = .ok (.invokevirtual 164, 3) := by decide +kernel
theorem dX11_feed_36 : decode cX11_feed 36 = .ok (.aload_n 0, 1) := by decide +kernel
theorem dX11_feed_37 : decode cX11_feed 37 = .ok (.iload 5, 2) := by decide +kernel
theorem dX11_feed_39 : decode cX11_feed 39 = .ok (.invokevirtual 164, 3) := by decide +kernel
theorem dX11_feed_42 : decode cX11_feed 42 = .ok (.aload_n 0, 1) := by decide +kernel
theorem dX11_feed_43 : decode cX11_feed 43 = .ok (.getfield 161, 3) := by decide +kernel
theorem dX11_feed_46 : decode cX11_feed 46 = .ok (.ireturn, 1) := by decide +kernel
theorem dX11_feed_13 : decode cX11_feed 13 = .ok (.iconst (-1), 1) := by decide +kernel
theorem dX11_feed_14 : decode cX11_feed 14 = .ok (.ireturn, 1) := by decide +kernel
def vds_feed : List Cond := [.code yX11_feed cX11_feed 6 (some .int), .fieldLink RX11 161 "SaltStreet" "onTape" "I", .methodLink RX11 164 yX11_putOnTape, .code yX11_putOnTape cX11_putOnTape 3 none, .fieldLink RX11 9 "SaltStreet" "tape" "[I", .instanceMethod yX11_putOnTape, .selects RX11 yX11_putOnTape yX11_putOnTape, .initialized RX11]
def vs_feed : List Cond := vds_feed ++ (wsX110 ++ ([] : List Cond))
theorem is_feed_X11 : ∀ w ∈ wsX110, w ∈ vs_feed := fun _ h => List.mem_append_right _ (List.mem_append_left _ h)
set_option maxRecDepth 20000 in
theorem gs_feed_164_s_put : GoodIn vs_feed (wsV RX11 164 RX11 yX11_putOnTape vs_put) := (goodIn_app (goodIn_r _ [2, 5, 6, 7] rfl (by decide +kernel)) (goodIn_app (goodIn_r vds_put [3, 1, 4] rfl (by decide +kernel)) (goodIn_app (goodIn_sub is_feed_X11 gdX11) goodIn_nil)))
set_option maxHeartbeats 4000000 in
set_option maxRecDepth 100000 in
theorem s_feed (l : Launch) (D : va_G) (kc : Nat → ClassId) (sz : Nat) (xa : Nat → Nat) (na : Nat → Nat) (pa : Nat → Nat) (sx_onTape : Nat) (sx_marked : Nat) (sx_status : Int32) (sx_top : Int64) (sx_bottom : Int64) (sx_fault : Int32) (sx_faultPlace : Int32) (tape : Nat → Int32) (a0 : Int32) (a1 : Int32) (a2 : Int32) (a3 : Int32) (a4 : Int32) (h_sx_onTape : sx_onTape ≤ 900) (h_sx_marked : sx_marked ≤ 3) : Met l yX11_feed vs_feed ({ frames := 1, cells := 0, slots := 0, locals := 22 }) (va_Pc [.ref (xa 0), .int a0, .int a1, .int a2, .int a3, .int a4] (wPre D kc [(xa 0, .inr (10, [.ref (xa 1), .ref (xa 2), .ref (na 0), .ref (pa 0), .ref (xa 3), .ref (na 1), .ref (na 2), .ref (xa 4), .ref (xa 5), .ref (xa 6), .ref (xa 7), .ref (xa 8), .ref (xa 9), .int (nI sx_onTape), .int (nI sx_marked), .int sx_status, .long sx_top, .long sx_bottom, .int sx_fault, .int sx_faultPlace])), (xa 1, .inl (kc 0, 900, .inl tape))] sz)) (va_Qi (fun (r : Int32) (_ : Unit) => True) (fun (_ : Unit) (t9 : State) => ∃ sx_onTape_n : Nat, ∃ tape_n : Nat → Int32, sx_onTape_n ≤ 900 ∧ va_P D vwCl [(xa 0, .inr (10, [.ref (xa 1), .ref (xa 2), .ref (na 0), .ref (pa 0), .ref (xa 3), .ref (na 1), .ref (na 2), .ref (xa 4), .ref (xa 5), .ref (xa 6), .ref (xa 7), .ref (xa 8), .ref (xa 9), .int (nI sx_onTape_n), .int (nI sx_marked), .int sx_status, .long sx_top, .long sx_bottom, .int sx_fault, .int sx_faultPlace])), (xa 1, .inl (kc 0, 900, .inl tape_n))] t9.heap ∧ va_D (va_A [(xa 0, .inr (10, [.ref (xa 1), .ref (xa 2), .ref (na 0), .ref (pa 0), .ref (xa 3), .ref (na 1), .ref (na 2), .ref (xa 4), .ref (xa 5), .ref (xa 6), .ref (xa 7), .ref (xa 8), .ref (xa 9), .int (nI sx_onTape), .int (nI sx_marked), .int sx_status, .long sx_top, .long sx_bottom, .int sx_fault, .int sx_faultPlace])), (xa 1, .inl (kc 0, 900, .inl tape))] sz) [(xa 0, .inr (10, [.ref (xa 1), .ref (xa 2), .ref (na 0), .ref (pa 0), .ref (xa 3), .ref (na 1), .ref (na 2), .ref (xa 4), .ref (xa 5), .ref (xa 6), .ref (xa 7), .ref (xa 8), .ref (xa 9), .int (nI sx_onTape_n), .int (nI sx_marked), .int sx_status, .long sx_top, .long sx_bottom, .int sx_fault, .int sx_faultPlace])), (xa 1, .inl (kc 0, 900, .inl tape_n))]) (va_A [(xa 0, .inr (10, [.ref (xa 1), .ref (xa 2), .ref (na 0), .ref (pa 0), .ref (xa 3), .ref (na 1), .ref (na 2), .ref (xa 4), .ref (xa 5), .ref (xa 6), .ref (xa 7), .ref (xa 8), .ref (xa 9), .int (nI sx_onTape), .int (nI sx_marked), .int sx_status, .long sx_top, .long sx_bottom, .int sx_fault, .int sx_faultPlace])), (xa 1, .inl (kc 0, 900, .inl tape))] sz)) 0 0 (va_A [(xa 0, .inr (10, [.ref (xa 1), .ref (xa 2), .ref (na 0), .ref (pa 0), .ref (xa 3), .ref (na 1), .ref (na 2), .ref (xa 4), .ref (xa 5), .ref (xa 6), .ref (xa 7), .ref (xa 8), .ref (xa 9), .int (nI sx_onTape), .int (nI sx_marked), .int sx_status, .long sx_top, .long sx_bottom, .int sx_fault, .int sx_faultPlace])), (xa 1, .inl (kc 0, 900, .inl tape))] sz) := by
  refine Met.ofW (cc := cX11_feed) (maxL := 6) (ret := (some .int)) (by decide) rfl ?_
  intro p e s m args below meth c s₁ B hml hv
  obtain ⟨rfl, hsz, hP, hE, hD0⟩ := hv
  have hx := B.exec
  have hb := B.bytes
  have hr := B.returns
  have hts := atoms_spec (ws := vs_feed) B.pre
  have hown : s.vm.findClass RX11 = some m.cls := findClass_of_methodNamed B.named
  have hlocks := B.notSynchronized
  subst hsz
  have hD := hD0.self (sz := s.heap.size)
  generalize hAe : va_A [(xa 0, .inr (10, [.ref (xa 1), .ref (xa 2), .ref (na 0), .ref (pa 0), .ref (xa 3), .ref (na 1), .ref (na 2), .ref (xa 4), .ref (xa 5), .ref (xa 6), .ref (xa 7), .ref (xa 8), .ref (xa 9), .int (nI sx_onTape), .int (nI sx_marked), .int sx_status, .long sx_top, .long sx_bottom, .int sx_fault, .int sx_faultPlace])), (xa 1, .inl (kc 0, 900, .inl tape))] s.heap.size = A at hD ⊢
  have hA : ∀ q : Nat, s.heap.size ≤ q → A q := fun q h => by rw [← hAe]; exact Or.inr h
  have hS : va_S A s.heap s.heap [] := va_S.rf
  have hK := hE.1
  have hP : va_P D vwCl [(xa 0, .inr (10, [.ref (xa 1), .ref (xa 2), .ref (na 0), .ref (pa 0), .ref (xa 3), .ref (na 1), .ref (na 2), .ref (xa 4), .ref (xa 5), .ref (xa 6), .ref (xa 7), .ref (xa 8), .ref (xa 9), .int (nI sx_onTape), .int (nI sx_marked), .int sx_status, .long sx_top, .long sx_bottom, .int sx_fault, .int sx_faultPlace])), (xa 1, .inl (kc 0, 900, .inl tape))] s.heap := hP
  have hl := lv_entry ([.ref (xa 0), .int a0, .int a1, .int a2, .int a3, .int a4]) (n := 6) (Nat.le_of_ble_eq_true rfl)
  rw [lg_entry_eq]
  generalize (lg_sl ([.ref (xa 0), .int a0, .int a1, .int a2, .int a3, .int a4]) ++ List.replicate (6 - (lg_sl ([.ref (xa 0), .int a0, .int a1, .int a2, .int a3, .int a4])).length) Slot.unset).toArray = ls at hl ⊢
  have hl : lv_has ls 6 [(0, .ref (xa 0)), (1, .int a0), (2, .int a1), (3, .int a2), (4, .int a3), (5, .int a4)] := hl
  refine lv_aload_n hx hb dX11_feed_0 rfl (lv_at hl 0 rfl) ?_
  refine va_get (D := D) (ci := 10) (v := .int (nI sx_onTape)) (C := RX11) (T := TX11) (N := 20) hx hb hts is_feed_X11 hown hK hP 0 rfl rfl 13 (by decide) (hts (.fieldLink RX11 161 "SaltStreet" "onTape" "I") (List.mem_of_getElem? (i := 1) rfl)) (fun _ h9 => h9) rfl dX11_feed_1 ?_
  refine lv_bipush (v := 20) hx hb dX11_feed_4 (by decide) ?_
  refine lv_iadd hx hb dX11_feed_6 ?_
  refine lv_ci (y := (nI (sx_onTape + 20))) (nI_add _ _) ?_
  refine lv_sipush (v := 900) hx hb dX11_feed_7 (by decide) ?_
  refine lv_icmp_le (tgt := 15) hx hb dX11_feed_10 (by decide) (fun c1 => ?_) (fun c1 => ?_)
  · have nc1 := (nI_leI (a := (sx_onTape + 20)) (b := 900) (by omega) (by omega)).mp c1
    refine lv_aload_n hx hb dX11_feed_15 rfl (lv_at hl 0 rfl) ?_
    refine lv_iload_n hx hb dX11_feed_16 rfl (lv_at hl 1 rfl) ?_
    have hPc := hP.sub (ws' := [(xa 0, .inr (10, [.ref (xa 1), .ref (xa 2), .ref (na 0), .ref (pa 0), .ref (xa 3), .ref (na 1), .ref (na 2), .ref (xa 4), .ref (xa 5), .ref (xa 6), .ref (xa 7), .ref (xa 8), .ref (xa 9), .int (nI sx_onTape), .int (nI sx_marked), .int sx_status, .long sx_top, .long sx_bottom, .int sx_fault, .int sx_faultPlace])), (xa 1, .inl (kc 0, 900, .inl tape))]) [0, 1] rfl
    have hDc := hD.sub (ws' := [(xa 0, .inr (10, [.ref (xa 1), .ref (xa 2), .ref (na 0), .ref (pa 0), .ref (xa 3), .ref (na 1), .ref (na 2), .ref (xa 4), .ref (xa 5), .ref (xa 6), .ref (xa 7), .ref (xa 8), .ref (xa 9), .int (nI sx_onTape), .int (nI sx_marked), .int sx_status, .long sx_top, .long sx_bottom, .int sx_fault, .int sx_faultPlace])), (xa 1, .inl (kc 0, 900, .inl tape))]) [0, 1] (by decide) rfl
    have hFc := va_free (wc := [(xa 0, .inr (10, [.ref (xa 1), .ref (xa 2), .ref (na 0), .ref (pa 0), .ref (xa 3), .ref (na 1), .ref (na 2), .ref (xa 4), .ref (xa 5), .ref (xa 6), .ref (xa 7), .ref (xa 8), .ref (xa 9), .int (nI sx_onTape), .int (nI sx_marked), .int sx_status, .long sx_top, .long sx_bottom, .int sx_fault, .int sx_faultPlace])), (xa 1, .inl (kc 0, 900, .inl tape))]) hD hS hA [0, 1] rfl
    refine va_callv (va_runV (As := [.int a0]) (rest := []) ⟨hx, hb, hml, hown, hts⟩ (s_put l D kc s.heap.size xa na pa sx_onTape sx_marked sx_status sx_top sx_bottom sx_fault sx_faultPlace tape a0 (by omega) (by omega)) (cwV 1 hts gs_feed_164_s_put rfl rfl rfl (by decide +kernel) ⟨Nat.le_of_ble_eq_true rfl, Nat.le_of_ble_eq_true rfl⟩) (preV_ok hPc hDc hE (ci := 10) (q0 := 0) rfl rfl) rfl rfl hl.1 rfl (lv_room (Nat.le_of_ble_eq_true rfl)) dX11_feed_17 ⟨Nat.le_of_ble_eq_true rfl, Nat.le_of_ble_eq_true rfl⟩) hS (fun q _ h => hFc q h) hFc (fun u9 t9 H locs ht hvm hw hB hz1 hk1 hS => ?_)
    obtain ⟨k3, f4, h_k3, hP1, hD1⟩ := hB
    rw [ht] at hP1
    obtain ⟨hP, hD⟩ := va_join (wr := []) (w1 := [(xa 0, .inr (10, [.ref (xa 1), .ref (xa 2), .ref (na 0), .ref (pa 0), .ref (xa 3), .ref (na 1), .ref (na 2), .ref (xa 4), .ref (xa 5), .ref (xa 6), .ref (xa 7), .ref (xa 8), .ref (xa 9), .int (nI k3), .int (nI sx_marked), .int sx_status, .long sx_top, .long sx_bottom, .int sx_fault, .int sx_faultPlace])), (xa 1, .inl (kc 0, 900, .inl f4))]) hP hD [0, 1] [] rfl rfl (by decide) (by decide) hk1 hFc hP1 hD1
    have hP : va_P D vwCl [(xa 0, .inr (10, [.ref (xa 1), .ref (xa 2), .ref (na 0), .ref (pa 0), .ref (xa 3), .ref (na 1), .ref (na 2), .ref (xa 4), .ref (xa 5), .ref (xa 6), .ref (xa 7), .ref (xa 8), .ref (xa 9), .int (nI k3), .int (nI sx_marked), .int sx_status, .long sx_top, .long sx_bottom, .int sx_fault, .int sx_faultPlace])), (xa 1, .inl (kc 0, 900, .inl f4))] H := hP
    have hD : va_D A [(xa 0, .inr (10, [.ref (xa 1), .ref (xa 2), .ref (na 0), .ref (pa 0), .ref (xa 3), .ref (na 1), .ref (na 2), .ref (xa 4), .ref (xa 5), .ref (xa 6), .ref (xa 7), .ref (xa 8), .ref (xa 9), .int (nI k3), .int (nI sx_marked), .int sx_status, .long sx_top, .long sx_bottom, .int sx_fault, .int sx_faultPlace])), (xa 1, .inl (kc 0, 900, .inl f4))] := hD
    refine lv_aload_n hx hb dX11_feed_20 rfl (lv_at hl 0 rfl) ?_
    refine lv_iload_n hx hb dX11_feed_21 rfl (lv_at hl 2 rfl) ?_
    have hPc := hP.sub (ws' := [(xa 0, .inr (10, [.ref (xa 1), .ref (xa 2), .ref (na 0), .ref (pa 0), .ref (xa 3), .ref (na 1), .ref (na 2), .ref (xa 4), .ref (xa 5), .ref (xa 6), .ref (xa 7), .ref (xa 8), .ref (xa 9), .int (nI k3), .int (nI sx_marked), .int sx_status, .long sx_top, .long sx_bottom, .int sx_fault, .int sx_faultPlace])), (xa 1, .inl (kc 0, 900, .inl f4))]) [0, 1] rfl
    have hDc := hD.sub (ws' := [(xa 0, .inr (10, [.ref (xa 1), .ref (xa 2), .ref (na 0), .ref (pa 0), .ref (xa 3), .ref (na 1), .ref (na 2), .ref (xa 4), .ref (xa 5), .ref (xa 6), .ref (xa 7), .ref (xa 8), .ref (xa 9), .int (nI k3), .int (nI sx_marked), .int sx_status, .long sx_top, .long sx_bottom, .int sx_fault, .int sx_faultPlace])), (xa 1, .inl (kc 0, 900, .inl f4))]) [0, 1] (by decide) rfl
    have hFc := va_free (wc := [(xa 0, .inr (10, [.ref (xa 1), .ref (xa 2), .ref (na 0), .ref (pa 0), .ref (xa 3), .ref (na 1), .ref (na 2), .ref (xa 4), .ref (xa 5), .ref (xa 6), .ref (xa 7), .ref (xa 8), .ref (xa 9), .int (nI k3), .int (nI sx_marked), .int sx_status, .long sx_top, .long sx_bottom, .int sx_fault, .int sx_faultPlace])), (xa 1, .inl (kc 0, 900, .inl f4))]) hD hS hA [0, 1] rfl
    refine va_callv (va_runV (As := [.int a1]) (rest := []) ⟨hx, hb, hml, hown, hts⟩ (s_put l D kc H.size xa na pa k3 sx_marked sx_status sx_top sx_bottom sx_fault sx_faultPlace f4 a1 (by omega) (by omega)) (cwV 1 hts gs_feed_164_s_put rfl rfl rfl (by decide +kernel) ⟨Nat.le_of_ble_eq_true rfl, Nat.le_of_ble_eq_true rfl⟩) (preV_ok hPc hDc hE (ci := 10) (q0 := 0) rfl rfl) rfl rfl hl.1 rfl (lv_room (Nat.le_of_ble_eq_true rfl)) dX11_feed_22 ⟨Nat.le_of_ble_eq_true rfl, Nat.le_of_ble_eq_true rfl⟩) hS (fun q _ h => hFc q h) hFc (fun u9 t9 H locs ht hvm hw hB hz1 hk1 hS => ?_)
    obtain ⟨k6, f7, h_k6, hP1, hD1⟩ := hB
    rw [ht] at hP1
    obtain ⟨hP, hD⟩ := va_join (wr := []) (w1 := [(xa 0, .inr (10, [.ref (xa 1), .ref (xa 2), .ref (na 0), .ref (pa 0), .ref (xa 3), .ref (na 1), .ref (na 2), .ref (xa 4), .ref (xa 5), .ref (xa 6), .ref (xa 7), .ref (xa 8), .ref (xa 9), .int (nI k6), .int (nI sx_marked), .int sx_status, .long sx_top, .long sx_bottom, .int sx_fault, .int sx_faultPlace])), (xa 1, .inl (kc 0, 900, .inl f7))]) hP hD [0, 1] [] rfl rfl (by decide) (by decide) hk1 hFc hP1 hD1
    have hP : va_P D vwCl [(xa 0, .inr (10, [.ref (xa 1), .ref (xa 2), .ref (na 0), .ref (pa 0), .ref (xa 3), .ref (na 1), .ref (na 2), .ref (xa 4), .ref (xa 5), .ref (xa 6), .ref (xa 7), .ref (xa 8), .ref (xa 9), .int (nI k6), .int (nI sx_marked), .int sx_status, .long sx_top, .long sx_bottom, .int sx_fault, .int sx_faultPlace])), (xa 1, .inl (kc 0, 900, .inl f7))] H := hP
    have hD : va_D A [(xa 0, .inr (10, [.ref (xa 1), .ref (xa 2), .ref (na 0), .ref (pa 0), .ref (xa 3), .ref (na 1), .ref (na 2), .ref (xa 4), .ref (xa 5), .ref (xa 6), .ref (xa 7), .ref (xa 8), .ref (xa 9), .int (nI k6), .int (nI sx_marked), .int sx_status, .long sx_top, .long sx_bottom, .int sx_fault, .int sx_faultPlace])), (xa 1, .inl (kc 0, 900, .inl f7))] := hD
    refine lv_aload_n hx hb dX11_feed_25 rfl (lv_at hl 0 rfl) ?_
    refine lv_iload_n hx hb dX11_feed_26 rfl (lv_at hl 3 rfl) ?_
    have hPc := hP.sub (ws' := [(xa 0, .inr (10, [.ref (xa 1), .ref (xa 2), .ref (na 0), .ref (pa 0), .ref (xa 3), .ref (na 1), .ref (na 2), .ref (xa 4), .ref (xa 5), .ref (xa 6), .ref (xa 7), .ref (xa 8), .ref (xa 9), .int (nI k6), .int (nI sx_marked), .int sx_status, .long sx_top, .long sx_bottom, .int sx_fault, .int sx_faultPlace])), (xa 1, .inl (kc 0, 900, .inl f7))]) [0, 1] rfl
    have hDc := hD.sub (ws' := [(xa 0, .inr (10, [.ref (xa 1), .ref (xa 2), .ref (na 0), .ref (pa 0), .ref (xa 3), .ref (na 1), .ref (na 2), .ref (xa 4), .ref (xa 5), .ref (xa 6), .ref (xa 7), .ref (xa 8), .ref (xa 9), .int (nI k6), .int (nI sx_marked), .int sx_status, .long sx_top, .long sx_bottom, .int sx_fault, .int sx_faultPlace])), (xa 1, .inl (kc 0, 900, .inl f7))]) [0, 1] (by decide) rfl
    have hFc := va_free (wc := [(xa 0, .inr (10, [.ref (xa 1), .ref (xa 2), .ref (na 0), .ref (pa 0), .ref (xa 3), .ref (na 1), .ref (na 2), .ref (xa 4), .ref (xa 5), .ref (xa 6), .ref (xa 7), .ref (xa 8), .ref (xa 9), .int (nI k6), .int (nI sx_marked), .int sx_status, .long sx_top, .long sx_bottom, .int sx_fault, .int sx_faultPlace])), (xa 1, .inl (kc 0, 900, .inl f7))]) hD hS hA [0, 1] rfl
    refine va_callv (va_runV (As := [.int a2]) (rest := []) ⟨hx, hb, hml, hown, hts⟩ (s_put l D kc H.size xa na pa k6 sx_marked sx_status sx_top sx_bottom sx_fault sx_faultPlace f7 a2 (by omega) (by omega)) (cwV 1 hts gs_feed_164_s_put rfl rfl rfl (by decide +kernel) ⟨Nat.le_of_ble_eq_true rfl, Nat.le_of_ble_eq_true rfl⟩) (preV_ok hPc hDc hE (ci := 10) (q0 := 0) rfl rfl) rfl rfl hl.1 rfl (lv_room (Nat.le_of_ble_eq_true rfl)) dX11_feed_27 ⟨Nat.le_of_ble_eq_true rfl, Nat.le_of_ble_eq_true rfl⟩) hS (fun q _ h => hFc q h) hFc (fun u9 t9 H locs ht hvm hw hB hz1 hk1 hS => ?_)
    obtain ⟨k9, f10, h_k9, hP1, hD1⟩ := hB
    rw [ht] at hP1
    obtain ⟨hP, hD⟩ := va_join (wr := []) (w1 := [(xa 0, .inr (10, [.ref (xa 1), .ref (xa 2), .ref (na 0), .ref (pa 0), .ref (xa 3), .ref (na 1), .ref (na 2), .ref (xa 4), .ref (xa 5), .ref (xa 6), .ref (xa 7), .ref (xa 8), .ref (xa 9), .int (nI k9), .int (nI sx_marked), .int sx_status, .long sx_top, .long sx_bottom, .int sx_fault, .int sx_faultPlace])), (xa 1, .inl (kc 0, 900, .inl f10))]) hP hD [0, 1] [] rfl rfl (by decide) (by decide) hk1 hFc hP1 hD1
    have hP : va_P D vwCl [(xa 0, .inr (10, [.ref (xa 1), .ref (xa 2), .ref (na 0), .ref (pa 0), .ref (xa 3), .ref (na 1), .ref (na 2), .ref (xa 4), .ref (xa 5), .ref (xa 6), .ref (xa 7), .ref (xa 8), .ref (xa 9), .int (nI k9), .int (nI sx_marked), .int sx_status, .long sx_top, .long sx_bottom, .int sx_fault, .int sx_faultPlace])), (xa 1, .inl (kc 0, 900, .inl f10))] H := hP
    have hD : va_D A [(xa 0, .inr (10, [.ref (xa 1), .ref (xa 2), .ref (na 0), .ref (pa 0), .ref (xa 3), .ref (na 1), .ref (na 2), .ref (xa 4), .ref (xa 5), .ref (xa 6), .ref (xa 7), .ref (xa 8), .ref (xa 9), .int (nI k9), .int (nI sx_marked), .int sx_status, .long sx_top, .long sx_bottom, .int sx_fault, .int sx_faultPlace])), (xa 1, .inl (kc 0, 900, .inl f10))] := hD
    refine lv_aload_n hx hb dX11_feed_30 rfl (lv_at hl 0 rfl) ?_
    refine lv_iload hx hb dX11_feed_31 (lv_at hl 4 rfl) ?_
    have hPc := hP.sub (ws' := [(xa 0, .inr (10, [.ref (xa 1), .ref (xa 2), .ref (na 0), .ref (pa 0), .ref (xa 3), .ref (na 1), .ref (na 2), .ref (xa 4), .ref (xa 5), .ref (xa 6), .ref (xa 7), .ref (xa 8), .ref (xa 9), .int (nI k9), .int (nI sx_marked), .int sx_status, .long sx_top, .long sx_bottom, .int sx_fault, .int sx_faultPlace])), (xa 1, .inl (kc 0, 900, .inl f10))]) [0, 1] rfl
    have hDc := hD.sub (ws' := [(xa 0, .inr (10, [.ref (xa 1), .ref (xa 2), .ref (na 0), .ref (pa 0), .ref (xa 3), .ref (na 1), .ref (na 2), .ref (xa 4), .ref (xa 5), .ref (xa 6), .ref (xa 7), .ref (xa 8), .ref (xa 9), .int (nI k9), .int (nI sx_marked), .int sx_status, .long sx_top, .long sx_bottom, .int sx_fault, .int sx_faultPlace])), (xa 1, .inl (kc 0, 900, .inl f10))]) [0, 1] (by decide) rfl
    have hFc := va_free (wc := [(xa 0, .inr (10, [.ref (xa 1), .ref (xa 2), .ref (na 0), .ref (pa 0), .ref (xa 3), .ref (na 1), .ref (na 2), .ref (xa 4), .ref (xa 5), .ref (xa 6), .ref (xa 7), .ref (xa 8), .ref (xa 9), .int (nI k9), .int (nI sx_marked), .int sx_status, .long sx_top, .long sx_bottom, .int sx_fault, .int sx_faultPlace])), (xa 1, .inl (kc 0, 900, .inl f10))]) hD hS hA [0, 1] rfl
    refine va_callv (va_runV (As := [.int a3]) (rest := []) ⟨hx, hb, hml, hown, hts⟩ (s_put l D kc H.size xa na pa k9 sx_marked sx_status sx_top sx_bottom sx_fault sx_faultPlace f10 a3 (by omega) (by omega)) (cwV 1 hts gs_feed_164_s_put rfl rfl rfl (by decide +kernel) ⟨Nat.le_of_ble_eq_true rfl, Nat.le_of_ble_eq_true rfl⟩) (preV_ok hPc hDc hE (ci := 10) (q0 := 0) rfl rfl) rfl rfl hl.1 rfl (lv_room (Nat.le_of_ble_eq_true rfl)) dX11_feed_33 ⟨Nat.le_of_ble_eq_true rfl, Nat.le_of_ble_eq_true rfl⟩) hS (fun q _ h => hFc q h) hFc (fun u9 t9 H locs ht hvm hw hB hz1 hk1 hS => ?_)
    obtain ⟨k12, f13, h_k12, hP1, hD1⟩ := hB
    rw [ht] at hP1
    obtain ⟨hP, hD⟩ := va_join (wr := []) (w1 := [(xa 0, .inr (10, [.ref (xa 1), .ref (xa 2), .ref (na 0), .ref (pa 0), .ref (xa 3), .ref (na 1), .ref (na 2), .ref (xa 4), .ref (xa 5), .ref (xa 6), .ref (xa 7), .ref (xa 8), .ref (xa 9), .int (nI k12), .int (nI sx_marked), .int sx_status, .long sx_top, .long sx_bottom, .int sx_fault, .int sx_faultPlace])), (xa 1, .inl (kc 0, 900, .inl f13))]) hP hD [0, 1] [] rfl rfl (by decide) (by decide) hk1 hFc hP1 hD1
    have hP : va_P D vwCl [(xa 0, .inr (10, [.ref (xa 1), .ref (xa 2), .ref (na 0), .ref (pa 0), .ref (xa 3), .ref (na 1), .ref (na 2), .ref (xa 4), .ref (xa 5), .ref (xa 6), .ref (xa 7), .ref (xa 8), .ref (xa 9), .int (nI k12), .int (nI sx_marked), .int sx_status, .long sx_top, .long sx_bottom, .int sx_fault, .int sx_faultPlace])), (xa 1, .inl (kc 0, 900, .inl f13))] H := hP
    have hD : va_D A [(xa 0, .inr (10, [.ref (xa 1), .ref (xa 2), .ref (na 0), .ref (pa 0), .ref (xa 3), .ref (na 1), .ref (na 2), .ref (xa 4), .ref (xa 5), .ref (xa 6), .ref (xa 7), .ref (xa 8), .ref (xa 9), .int (nI k12), .int (nI sx_marked), .int sx_status, .long sx_top, .long sx_bottom, .int sx_fault, .int sx_faultPlace])), (xa 1, .inl (kc 0, 900, .inl f13))] := hD
    refine lv_aload_n hx hb dX11_feed_36 rfl (lv_at hl 0 rfl) ?_
    refine lv_iload hx hb dX11_feed_37 (lv_at hl 5 rfl) ?_
    have hPc := hP.sub (ws' := [(xa 0, .inr (10, [.ref (xa 1), .ref (xa 2), .ref (na 0), .ref (pa 0), .ref (xa 3), .ref (na 1), .ref (na 2), .ref (xa 4), .ref (xa 5), .ref (xa 6), .ref (xa 7), .ref (xa 8), .ref (xa 9), .int (nI k12), .int (nI sx_marked), .int sx_status, .long sx_top, .long sx_bottom, .int sx_fault, .int sx_faultPlace])), (xa 1, .inl (kc 0, 900, .inl f13))]) [0, 1] rfl
    have hDc := hD.sub (ws' := [(xa 0, .inr (10, [.ref (xa 1), .ref (xa 2), .ref (na 0), .ref (pa 0), .ref (xa 3), .ref (na 1), .ref (na 2), .ref (xa 4), .ref (xa 5), .ref (xa 6), .ref (xa 7), .ref (xa 8), .ref (xa 9), .int (nI k12), .int (nI sx_marked), .int sx_status, .long sx_top, .long sx_bottom, .int sx_fault, .int sx_faultPlace])), (xa 1, .inl (kc 0, 900, .inl f13))]) [0, 1] (by decide) rfl
    have hFc := va_free (wc := [(xa 0, .inr (10, [.ref (xa 1), .ref (xa 2), .ref (na 0), .ref (pa 0), .ref (xa 3), .ref (na 1), .ref (na 2), .ref (xa 4), .ref (xa 5), .ref (xa 6), .ref (xa 7), .ref (xa 8), .ref (xa 9), .int (nI k12), .int (nI sx_marked), .int sx_status, .long sx_top, .long sx_bottom, .int sx_fault, .int sx_faultPlace])), (xa 1, .inl (kc 0, 900, .inl f13))]) hD hS hA [0, 1] rfl
    refine va_callv (va_runV (As := [.int a4]) (rest := []) ⟨hx, hb, hml, hown, hts⟩ (s_put l D kc H.size xa na pa k12 sx_marked sx_status sx_top sx_bottom sx_fault sx_faultPlace f13 a4 (by omega) (by omega)) (cwV 1 hts gs_feed_164_s_put rfl rfl rfl (by decide +kernel) ⟨Nat.le_of_ble_eq_true rfl, Nat.le_of_ble_eq_true rfl⟩) (preV_ok hPc hDc hE (ci := 10) (q0 := 0) rfl rfl) rfl rfl hl.1 rfl (lv_room (Nat.le_of_ble_eq_true rfl)) dX11_feed_39 ⟨Nat.le_of_ble_eq_true rfl, Nat.le_of_ble_eq_true rfl⟩) hS (fun q _ h => hFc q h) hFc (fun u9 t9 H locs ht hvm hw hB hz1 hk1 hS => ?_)
    obtain ⟨k15, f16, h_k15, hP1, hD1⟩ := hB
    rw [ht] at hP1
    obtain ⟨hP, hD⟩ := va_join (wr := []) (w1 := [(xa 0, .inr (10, [.ref (xa 1), .ref (xa 2), .ref (na 0), .ref (pa 0), .ref (xa 3), .ref (na 1), .ref (na 2), .ref (xa 4), .ref (xa 5), .ref (xa 6), .ref (xa 7), .ref (xa 8), .ref (xa 9), .int (nI k15), .int (nI sx_marked), .int sx_status, .long sx_top, .long sx_bottom, .int sx_fault, .int sx_faultPlace])), (xa 1, .inl (kc 0, 900, .inl f16))]) hP hD [0, 1] [] rfl rfl (by decide) (by decide) hk1 hFc hP1 hD1
    have hP : va_P D vwCl [(xa 0, .inr (10, [.ref (xa 1), .ref (xa 2), .ref (na 0), .ref (pa 0), .ref (xa 3), .ref (na 1), .ref (na 2), .ref (xa 4), .ref (xa 5), .ref (xa 6), .ref (xa 7), .ref (xa 8), .ref (xa 9), .int (nI k15), .int (nI sx_marked), .int sx_status, .long sx_top, .long sx_bottom, .int sx_fault, .int sx_faultPlace])), (xa 1, .inl (kc 0, 900, .inl f16))] H := hP
    have hD : va_D A [(xa 0, .inr (10, [.ref (xa 1), .ref (xa 2), .ref (na 0), .ref (pa 0), .ref (xa 3), .ref (na 1), .ref (na 2), .ref (xa 4), .ref (xa 5), .ref (xa 6), .ref (xa 7), .ref (xa 8), .ref (xa 9), .int (nI k15), .int (nI sx_marked), .int sx_status, .long sx_top, .long sx_bottom, .int sx_fault, .int sx_faultPlace])), (xa 1, .inl (kc 0, 900, .inl f16))] := hD
    refine lv_aload_n hx hb dX11_feed_42 rfl (lv_at hl 0 rfl) ?_
    refine va_get (D := D) (ci := 10) (v := .int (nI k15)) (C := RX11) (T := TX11) (N := 20) hx hb hts is_feed_X11 hown hK hP 0 rfl rfl 13 (by decide) (hts (.fieldLink RX11 161 "SaltStreet" "onTape" "I") (List.mem_of_getElem? (i := 1) rfl)) (fun _ h9 => h9) rfl dX11_feed_43 ?_
    have hP9 := hP.sub (ws' := [(xa 0, .inr (10, [.ref (xa 1), .ref (xa 2), .ref (na 0), .ref (pa 0), .ref (xa 3), .ref (na 1), .ref (na 2), .ref (xa 4), .ref (xa 5), .ref (xa 6), .ref (xa 7), .ref (xa 8), .ref (xa 9), .int (nI k15), .int (nI sx_marked), .int sx_status, .long sx_top, .long sx_bottom, .int sx_fault, .int sx_faultPlace])), (xa 1, .inl (kc 0, 900, .inl f16))]) [0, 1] rfl
    have hD9 := hD.sub (ws' := [(xa 0, .inr (10, [.ref (xa 1), .ref (xa 2), .ref (na 0), .ref (pa 0), .ref (xa 3), .ref (na 1), .ref (na 2), .ref (xa 4), .ref (xa 5), .ref (xa 6), .ref (xa 7), .ref (xa 8), .ref (xa 9), .int (nI k15), .int (nI sx_marked), .int sx_status, .long sx_top, .long sx_bottom, .int sx_fault, .int sx_faultPlace])), (xa 1, .inl (kc 0, 900, .inl f16))]) [0, 1] (by decide) rfl
    exact W.iret (v := (nI k15)) hx hb hr (fun t9 ht hW => ⟨⟨(nI k15), (), rfl, trivial, k15, f16, by omega, by rw [ht]; exact hP9, hD9⟩, hS.F ht⟩) hS.2.2 dX11_feed_46
  · have nc1 := Nat.not_le.mp (fun q => c1 ((nI_leI (a := (sx_onTape + 20)) (b := 900) (by omega) (by omega)).mpr q))
    refine lv_iconst (v := (-1)) hx hb dX11_feed_13 (by decide) ?_
    have hP9 := hP.sub (ws' := [(xa 0, .inr (10, [.ref (xa 1), .ref (xa 2), .ref (na 0), .ref (pa 0), .ref (xa 3), .ref (na 1), .ref (na 2), .ref (xa 4), .ref (xa 5), .ref (xa 6), .ref (xa 7), .ref (xa 8), .ref (xa 9), .int (nI sx_onTape), .int (nI sx_marked), .int sx_status, .long sx_top, .long sx_bottom, .int sx_fault, .int sx_faultPlace])), (xa 1, .inl (kc 0, 900, .inl tape))]) [0, 1] rfl
    have hD9 := hD.sub (ws' := [(xa 0, .inr (10, [.ref (xa 1), .ref (xa 2), .ref (na 0), .ref (pa 0), .ref (xa 3), .ref (na 1), .ref (na 2), .ref (xa 4), .ref (xa 5), .ref (xa 6), .ref (xa 7), .ref (xa 8), .ref (xa 9), .int (nI sx_onTape), .int (nI sx_marked), .int sx_status, .long sx_top, .long sx_bottom, .int sx_fault, .int sx_faultPlace])), (xa 1, .inl (kc 0, 900, .inl tape))]) [0, 1] (by decide) rfl
    exact W.iret (v := (-1)) hx hb hr (fun t9 ht hW => ⟨⟨(-1), (), rfl, trivial, sx_onTape, tape, by omega, by rw [ht]; exact hP9, hD9⟩, hS.F ht⟩) hS.2.2 dX11_feed_14
theorem dX11_closeText_0 : decode cX11_closeText 0 = .ok (.aload_n 0, 1) := by decide +kernel
theorem dX11_closeText_1 : decode cX11_closeText 1 = .ok (.iconst 0, 1) := by decide +kernel
theorem dX11_closeText_2 : decode cX11_closeText 2 = .ok (.putfield 161, 3) := by decide +kernel
theorem dX11_closeText_5 : decode cX11_closeText 5 = .ok (.aload_n 0, 1) := by decide +kernel
theorem dX11_closeText_6 : decode cX11_closeText 6 = .ok (.aload_n 0, 1) := by decide +kernel
theorem dX11_closeText_7 : decode cX11_closeText 7 = .ok (.getfield 65, 3) := by decide +kernel
theorem dX11_closeText_10 : decode cX11_closeText 10 = .ok (.getfield 453, 3) := by decide +kernel
theorem dX11_closeText_13 : decode cX11_closeText 13 = .ok (.putfield 95, 3) := by decide +kernel
theorem dX11_closeText_16 : decode cX11_closeText 16 = .ok (.aload_n 0, 1) := by decide +kernel
theorem dX11_closeText_17 : decode cX11_closeText 17 = .ok (.aload_n 0, 1) := by decide +kernel
theorem dX11_closeText_18 : decode cX11_closeText 18 = .ok (.getfield 65, 3) := by decide +kernel
theorem dX11_closeText_21 : decode cX11_closeText 21 = .ok (.getfield 454, 3) := by decide +kernel
theorem dX11_closeText_24 : decode cX11_closeText 24 = .ok (.putfield 99, 3) := by decide +kernel
theorem dX11_closeText_27 : decode cX11_closeText 27 = .ok (.return_, 1) := by decide +kernel
def vds_closeText : List Cond := [.code yX11_closeText cX11_closeText 1 none, .fieldLink RX11 161 "SaltStreet" "onTape" "I", .fieldLink RX11 65 "SaltStreet" "tokens" "LSaltStreet$Tokens;", .fieldLink RX11 95 "SaltStreet" "fault" "I", .fieldLink RX11 99 "SaltStreet" "faultPlace" "I"]
def vs_closeText : List Cond := vds_closeText ++ (wsX110 ++ (wsX70 ++ ([] : List Cond)))
theorem is_closeText_X11 : ∀ w ∈ wsX110, w ∈ vs_closeText := fun _ h => List.mem_append_right _ (List.mem_append_left _ h)
theorem is_closeText_X7 : ∀ w ∈ wsX70, w ∈ vs_closeText := fun _ h => List.mem_append_right _ (List.mem_append_right _ (List.mem_append_left _ h))
set_option maxHeartbeats 4000000 in
set_option maxRecDepth 100000 in
theorem s_closeText (l : Launch) (D : va_G) (kc : Nat → ClassId) (sz : Nat) (xa : Nat → Nat) (na : Nat → Nat) (pa : Nat → Nat) (sx_onTape : Nat) (sx_marked : Nat) (sx_status : Int32) (sx_top : Int64) (sx_bottom : Int64) (sx_fault : Int32) (sx_faultPlace : Int32) (tk_length : Nat) (tk_next : Nat) (tk_kind : Int32) (tk_start : Int32) (tk_number : Int32) (tk_name : Int64) (tk_taken : Int32) (tk_fault : Int32) (tk_place : Int32) (h_sx_onTape : sx_onTape ≤ 900) (h_sx_marked : sx_marked ≤ 3) (h_tk_length : tk_length ≤ 900) (h_tk_next : tk_next ≤ 900) : Met l yX11_closeText vs_closeText ({ frames := 0, cells := 0, slots := 0, locals := 0 }) (va_Pc [.ref (xa 0)] (wPre D kc [(xa 0, .inr (10, [.ref (xa 1), .ref (xa 2), .ref (na 0), .ref (pa 0), .ref (xa 3), .ref (na 1), .ref (na 2), .ref (xa 4), .ref (xa 5), .ref (xa 6), .ref (xa 7), .ref (xa 8), .ref (xa 9), .int (nI sx_onTape), .int (nI sx_marked), .int sx_status, .long sx_top, .long sx_bottom, .int sx_fault, .int sx_faultPlace])), (xa 7, .inr (7, [.ref (xa 1), .int (nI tk_length), .int (nI tk_next), .int tk_kind, .int tk_start, .int tk_number, .long tk_name, .int tk_taken, .int tk_fault, .int tk_place]))] sz)) (va_Qv (fun (_ : Unit) => True) (fun (_ : Unit) (t9 : State) => ∃ sx_onTape_n : Nat, ∃ sx_fault_n : Int32, ∃ sx_faultPlace_n : Int32, sx_onTape_n ≤ 900 ∧ va_P D vwCl [(xa 0, .inr (10, [.ref (xa 1), .ref (xa 2), .ref (na 0), .ref (pa 0), .ref (xa 3), .ref (na 1), .ref (na 2), .ref (xa 4), .ref (xa 5), .ref (xa 6), .ref (xa 7), .ref (xa 8), .ref (xa 9), .int (nI sx_onTape_n), .int (nI sx_marked), .int sx_status, .long sx_top, .long sx_bottom, .int sx_fault_n, .int sx_faultPlace_n])), (xa 7, .inr (7, [.ref (xa 1), .int (nI tk_length), .int (nI tk_next), .int tk_kind, .int tk_start, .int tk_number, .long tk_name, .int tk_taken, .int tk_fault, .int tk_place]))] t9.heap ∧ va_D (va_A [(xa 0, .inr (10, [.ref (xa 1), .ref (xa 2), .ref (na 0), .ref (pa 0), .ref (xa 3), .ref (na 1), .ref (na 2), .ref (xa 4), .ref (xa 5), .ref (xa 6), .ref (xa 7), .ref (xa 8), .ref (xa 9), .int (nI sx_onTape), .int (nI sx_marked), .int sx_status, .long sx_top, .long sx_bottom, .int sx_fault, .int sx_faultPlace])), (xa 7, .inr (7, [.ref (xa 1), .int (nI tk_length), .int (nI tk_next), .int tk_kind, .int tk_start, .int tk_number, .long tk_name, .int tk_taken, .int tk_fault, .int tk_place]))] sz) [(xa 0, .inr (10, [.ref (xa 1), .ref (xa 2), .ref (na 0), .ref (pa 0), .ref (xa 3), .ref (na 1), .ref (na 2), .ref (xa 4), .ref (xa 5), .ref (xa 6), .ref (xa 7), .ref (xa 8), .ref (xa 9), .int (nI sx_onTape_n), .int (nI sx_marked), .int sx_status, .long sx_top, .long sx_bottom, .int sx_fault_n, .int sx_faultPlace_n])), (xa 7, .inr (7, [.ref (xa 1), .int (nI tk_length), .int (nI tk_next), .int tk_kind, .int tk_start, .int tk_number, .long tk_name, .int tk_taken, .int tk_fault, .int tk_place]))]) (va_A [(xa 0, .inr (10, [.ref (xa 1), .ref (xa 2), .ref (na 0), .ref (pa 0), .ref (xa 3), .ref (na 1), .ref (na 2), .ref (xa 4), .ref (xa 5), .ref (xa 6), .ref (xa 7), .ref (xa 8), .ref (xa 9), .int (nI sx_onTape), .int (nI sx_marked), .int sx_status, .long sx_top, .long sx_bottom, .int sx_fault, .int sx_faultPlace])), (xa 7, .inr (7, [.ref (xa 1), .int (nI tk_length), .int (nI tk_next), .int tk_kind, .int tk_start, .int tk_number, .long tk_name, .int tk_taken, .int tk_fault, .int tk_place]))] sz)) 0 0 (va_A [(xa 0, .inr (10, [.ref (xa 1), .ref (xa 2), .ref (na 0), .ref (pa 0), .ref (xa 3), .ref (na 1), .ref (na 2), .ref (xa 4), .ref (xa 5), .ref (xa 6), .ref (xa 7), .ref (xa 8), .ref (xa 9), .int (nI sx_onTape), .int (nI sx_marked), .int sx_status, .long sx_top, .long sx_bottom, .int sx_fault, .int sx_faultPlace])), (xa 7, .inr (7, [.ref (xa 1), .int (nI tk_length), .int (nI tk_next), .int tk_kind, .int tk_start, .int tk_number, .long tk_name, .int tk_taken, .int tk_fault, .int tk_place]))] sz) := by
  refine Met.ofW (cc := cX11_closeText) (maxL := 1) (ret := none) (by decide) rfl ?_
  intro p e s m args below meth c s₁ B hml hv
  obtain ⟨rfl, hsz, hP, hE, hD0⟩ := hv
  have hx := B.exec
  have hb := B.bytes
  have hr := B.returns
  have hts := atoms_spec (ws := vs_closeText) B.pre
  have hown : s.vm.findClass RX11 = some m.cls := findClass_of_methodNamed B.named
  have hlocks := B.notSynchronized
  subst hsz
  have hD := hD0.self (sz := s.heap.size)
  generalize hAe : va_A [(xa 0, .inr (10, [.ref (xa 1), .ref (xa 2), .ref (na 0), .ref (pa 0), .ref (xa 3), .ref (na 1), .ref (na 2), .ref (xa 4), .ref (xa 5), .ref (xa 6), .ref (xa 7), .ref (xa 8), .ref (xa 9), .int (nI sx_onTape), .int (nI sx_marked), .int sx_status, .long sx_top, .long sx_bottom, .int sx_fault, .int sx_faultPlace])), (xa 7, .inr (7, [.ref (xa 1), .int (nI tk_length), .int (nI tk_next), .int tk_kind, .int tk_start, .int tk_number, .long tk_name, .int tk_taken, .int tk_fault, .int tk_place]))] s.heap.size = A at hD ⊢
  have hA : ∀ q : Nat, s.heap.size ≤ q → A q := fun q h => by rw [← hAe]; exact Or.inr h
  have hS : va_S A s.heap s.heap [] := va_S.rf
  have hK := hE.1
  have hP : va_P D vwCl [(xa 0, .inr (10, [.ref (xa 1), .ref (xa 2), .ref (na 0), .ref (pa 0), .ref (xa 3), .ref (na 1), .ref (na 2), .ref (xa 4), .ref (xa 5), .ref (xa 6), .ref (xa 7), .ref (xa 8), .ref (xa 9), .int (nI sx_onTape), .int (nI sx_marked), .int sx_status, .long sx_top, .long sx_bottom, .int sx_fault, .int sx_faultPlace])), (xa 7, .inr (7, [.ref (xa 1), .int (nI tk_length), .int (nI tk_next), .int tk_kind, .int tk_start, .int tk_number, .long tk_name, .int tk_taken, .int tk_fault, .int tk_place]))] s.heap := hP
  have hl := lv_entry ([.ref (xa 0)]) (n := 1) (Nat.le_of_ble_eq_true rfl)
  rw [lg_entry_eq]
  generalize (lg_sl ([.ref (xa 0)]) ++ List.replicate (1 - (lg_sl ([.ref (xa 0)])).length) Slot.unset).toArray = ls at hl ⊢
  have hl : lv_has ls 1 [(0, .ref (xa 0))] := hl
  refine lv_aload_n hx hb dX11_closeText_0 rfl (lv_at hl 0 rfl) ?_
  refine lv_iconst (v := 0) hx hb dX11_closeText_1 (by decide) ?_
  refine va_put (D := D) (ci := 10) (v := .int 0) (ty := .int) (C := RX11) (T := TX11) (N := 20) hx hb hts is_closeText_X11 tyX11 tyX11_ok nmX11 hown hK hP hD hS 0 rfl rfl 13 (by decide) (hts (.fieldLink RX11 161 "SaltStreet" "onTape" "I") (List.mem_of_getElem? (i := 1) rfl)) (fun _ h9 => h9) rfl (by decide +kernel) rfl rfl (Nat.le_of_ble_eq_true rfl) dX11_closeText_2 (fun H locs hP hD hS => ?_)
  have hP : va_P D vwCl [(xa 0, .inr (10, [.ref (xa 1), .ref (xa 2), .ref (na 0), .ref (pa 0), .ref (xa 3), .ref (na 1), .ref (na 2), .ref (xa 4), .ref (xa 5), .ref (xa 6), .ref (xa 7), .ref (xa 8), .ref (xa 9), .int 0, .int (nI sx_marked), .int sx_status, .long sx_top, .long sx_bottom, .int sx_fault, .int sx_faultPlace])), (xa 7, .inr (7, [.ref (xa 1), .int (nI tk_length), .int (nI tk_next), .int tk_kind, .int tk_start, .int tk_number, .long tk_name, .int tk_taken, .int tk_fault, .int tk_place]))] H := hP
  have hD : va_D A [(xa 0, .inr (10, [.ref (xa 1), .ref (xa 2), .ref (na 0), .ref (pa 0), .ref (xa 3), .ref (na 1), .ref (na 2), .ref (xa 4), .ref (xa 5), .ref (xa 6), .ref (xa 7), .ref (xa 8), .ref (xa 9), .int 0, .int (nI sx_marked), .int sx_status, .long sx_top, .long sx_bottom, .int sx_fault, .int sx_faultPlace])), (xa 7, .inr (7, [.ref (xa 1), .int (nI tk_length), .int (nI tk_next), .int tk_kind, .int tk_start, .int tk_number, .long tk_name, .int tk_taken, .int tk_fault, .int tk_place]))] := hD
  refine lv_aload_n hx hb dX11_closeText_5 rfl (lv_at hl 0 rfl) ?_
  refine lv_aload_n hx hb dX11_closeText_6 rfl (lv_at hl 0 rfl) ?_
  refine va_get (D := D) (ci := 10) (v := .ref (xa 7)) (C := RX11) (T := TX11) (N := 20) hx hb hts is_closeText_X11 hown hK hP 0 rfl rfl 10 (by decide) (hts (.fieldLink RX11 65 "SaltStreet" "tokens" "LSaltStreet$Tokens;") (List.mem_of_getElem? (i := 2) rfl)) (fun _ h9 => h9) rfl dX11_closeText_7 ?_
  refine va_getN (D := D) (ci := 7) (v := .int tk_fault) (C := RX7) (T := TX7) (N := 10) hx hb hts is_closeText_X7 hown hK hP 1 rfl rfl 8 (by decide) (hE.nw 110 rfl) (fun _ h9 => h9) rfl dX11_closeText_10 ?_
  refine va_put (D := D) (ci := 10) (v := .int tk_fault) (ty := .int) (C := RX11) (T := TX11) (N := 20) hx hb hts is_closeText_X11 tyX11 tyX11_ok nmX11 hown hK hP hD hS 0 rfl rfl 18 (by decide) (hts (.fieldLink RX11 95 "SaltStreet" "fault" "I") (List.mem_of_getElem? (i := 3) rfl)) (fun _ h9 => h9) rfl (by decide +kernel) rfl rfl (Nat.le_of_ble_eq_true rfl) dX11_closeText_13 (fun H locs hP hD hS => ?_)
  have hP : va_P D vwCl [(xa 0, .inr (10, [.ref (xa 1), .ref (xa 2), .ref (na 0), .ref (pa 0), .ref (xa 3), .ref (na 1), .ref (na 2), .ref (xa 4), .ref (xa 5), .ref (xa 6), .ref (xa 7), .ref (xa 8), .ref (xa 9), .int 0, .int (nI sx_marked), .int sx_status, .long sx_top, .long sx_bottom, .int tk_fault, .int sx_faultPlace])), (xa 7, .inr (7, [.ref (xa 1), .int (nI tk_length), .int (nI tk_next), .int tk_kind, .int tk_start, .int tk_number, .long tk_name, .int tk_taken, .int tk_fault, .int tk_place]))] H := hP
  have hD : va_D A [(xa 0, .inr (10, [.ref (xa 1), .ref (xa 2), .ref (na 0), .ref (pa 0), .ref (xa 3), .ref (na 1), .ref (na 2), .ref (xa 4), .ref (xa 5), .ref (xa 6), .ref (xa 7), .ref (xa 8), .ref (xa 9), .int 0, .int (nI sx_marked), .int sx_status, .long sx_top, .long sx_bottom, .int tk_fault, .int sx_faultPlace])), (xa 7, .inr (7, [.ref (xa 1), .int (nI tk_length), .int (nI tk_next), .int tk_kind, .int tk_start, .int tk_number, .long tk_name, .int tk_taken, .int tk_fault, .int tk_place]))] := hD
  refine lv_aload_n hx hb dX11_closeText_16 rfl (lv_at hl 0 rfl) ?_
  refine lv_aload_n hx hb dX11_closeText_17 rfl (lv_at hl 0 rfl) ?_
  refine va_get (D := D) (ci := 10) (v := .ref (xa 7)) (C := RX11) (T := TX11) (N := 20) hx hb hts is_closeText_X11 hown hK hP 0 rfl rfl 10 (by decide) (hts (.fieldLink RX11 65 "SaltStreet" "tokens" "LSaltStreet$Tokens;") (List.mem_of_getElem? (i := 2) rfl)) (fun _ h9 => h9) rfl dX11_closeText_18 ?_
  refine va_getN (D := D) (ci := 7) (v := .int tk_place) (C := RX7) (T := TX7) (N := 10) hx hb hts is_closeText_X7 hown hK hP 1 rfl rfl 9 (by decide) (hE.nw 111 rfl) (fun _ h9 => h9) rfl dX11_closeText_21 ?_
  refine va_put (D := D) (ci := 10) (v := .int tk_place) (ty := .int) (C := RX11) (T := TX11) (N := 20) hx hb hts is_closeText_X11 tyX11 tyX11_ok nmX11 hown hK hP hD hS 0 rfl rfl 19 (by decide) (hts (.fieldLink RX11 99 "SaltStreet" "faultPlace" "I") (List.mem_of_getElem? (i := 4) rfl)) (fun _ h9 => h9) rfl (by decide +kernel) rfl rfl (Nat.le_of_ble_eq_true rfl) dX11_closeText_24 (fun H locs hP hD hS => ?_)
  have hP : va_P D vwCl [(xa 0, .inr (10, [.ref (xa 1), .ref (xa 2), .ref (na 0), .ref (pa 0), .ref (xa 3), .ref (na 1), .ref (na 2), .ref (xa 4), .ref (xa 5), .ref (xa 6), .ref (xa 7), .ref (xa 8), .ref (xa 9), .int 0, .int (nI sx_marked), .int sx_status, .long sx_top, .long sx_bottom, .int tk_fault, .int tk_place])), (xa 7, .inr (7, [.ref (xa 1), .int (nI tk_length), .int (nI tk_next), .int tk_kind, .int tk_start, .int tk_number, .long tk_name, .int tk_taken, .int tk_fault, .int tk_place]))] H := hP
  have hD : va_D A [(xa 0, .inr (10, [.ref (xa 1), .ref (xa 2), .ref (na 0), .ref (pa 0), .ref (xa 3), .ref (na 1), .ref (na 2), .ref (xa 4), .ref (xa 5), .ref (xa 6), .ref (xa 7), .ref (xa 8), .ref (xa 9), .int 0, .int (nI sx_marked), .int sx_status, .long sx_top, .long sx_bottom, .int tk_fault, .int tk_place])), (xa 7, .inr (7, [.ref (xa 1), .int (nI tk_length), .int (nI tk_next), .int tk_kind, .int tk_start, .int tk_number, .long tk_name, .int tk_taken, .int tk_fault, .int tk_place]))] := hD
  have hP9 := hP.sub (ws' := [(xa 0, .inr (10, [.ref (xa 1), .ref (xa 2), .ref (na 0), .ref (pa 0), .ref (xa 3), .ref (na 1), .ref (na 2), .ref (xa 4), .ref (xa 5), .ref (xa 6), .ref (xa 7), .ref (xa 8), .ref (xa 9), .int 0, .int (nI sx_marked), .int sx_status, .long sx_top, .long sx_bottom, .int tk_fault, .int tk_place])), (xa 7, .inr (7, [.ref (xa 1), .int (nI tk_length), .int (nI tk_next), .int tk_kind, .int tk_start, .int tk_number, .long tk_name, .int tk_taken, .int tk_fault, .int tk_place]))]) [0, 1] rfl
  have hD9 := hD.sub (ws' := [(xa 0, .inr (10, [.ref (xa 1), .ref (xa 2), .ref (na 0), .ref (pa 0), .ref (xa 3), .ref (na 1), .ref (na 2), .ref (xa 4), .ref (xa 5), .ref (xa 6), .ref (xa 7), .ref (xa 8), .ref (xa 9), .int 0, .int (nI sx_marked), .int sx_status, .long sx_top, .long sx_bottom, .int tk_fault, .int tk_place])), (xa 7, .inr (7, [.ref (xa 1), .int (nI tk_length), .int (nI tk_next), .int tk_kind, .int tk_start, .int tk_number, .long tk_name, .int tk_taken, .int tk_fault, .int tk_place]))]) [0, 1] (by decide) rfl
  exact W.vret hx hb hr (fun t9 ht hW => ⟨⟨(), rfl, trivial, 0, tk_fault, tk_place, by omega, by rw [ht]; exact hP9, hD9⟩, hS.F ht⟩) hS.2.2 dX11_closeText_27
theorem dX7_begin_0 : decode cX7_begin 0 = .ok (.aload_n 0, 1) := by decide +kernel
theorem dX7_begin_1 : decode cX7_begin 1 = .ok (.iload_n 1, 1) := by decide +kernel
theorem dX7_begin_2 : decode cX7_begin 2 = .ok (.aload_n 0, 1) := by decide +kernel
theorem dX7_begin_3 : decode cX7_begin 3 = .ok (.getfield 15, 3) := by decide +kernel
theorem dX7_begin_6 : decode cX7_begin 6 = .ok (.arraylength, 1) := by decide +kernel
theorem dX7_begin_7 : decode cX7_begin 7 = .ok (.invokestatic 19, 3) := by decide +kernel
theorem dX7_begin_10 : decode cX7_begin 10 = .ok (.putfield 25, 3) := by decide +kernel
theorem dX7_begin_13 : decode cX7_begin 13 = .ok (.aload_n 0, 1) := by decide +kernel
theorem dX7_begin_14 : decode cX7_begin 14 = .ok (.iconst 0, 1) := by decide +kernel
theorem dX7_begin_15 : decode cX7_begin 15 = .ok (.putfield 28, 3) := by decide +kernel
theorem dX7_begin_18 : decode cX7_begin 18 = .ok (.aload_n 0, 1) := by decide +kernel
theorem dX7_begin_19 : decode cX7_begin 19 = .ok (.iconst 0, 1) := by decide +kernel
theorem dX7_begin_20 : decode cX7_begin 20 = .ok (.putfield 31, 3) := by decide +kernel
theorem dX7_begin_23 : decode cX7_begin 23 = .ok (.aload_n 0, 1) := by decide +kernel
theorem dX7_begin_24 : decode cX7_begin 24 = .ok (.iconst (-1), 1) := by decide +kernel
theorem dX7_begin_25 : decode cX7_begin 25 = .ok (.putfield 9, 3) := by decide +kernel
theorem dX7_begin_28 : decode cX7_begin 28 = .ok (.aload_n 0, 1) := by decide +kernel
theorem dX7_begin_29 : decode cX7_begin 29 = .ok (.invokevirtual 34, 3) := by decide +kernel
theorem dX7_begin_32 : decode cX7_begin 32 = .ok (.return_, 1) := by decide +kernel
def vds_begin_0 : List Cond := [.code yX7_begin cX7_begin 2 none, .fieldLink RX7 15 "SaltStreet$Tokens" "text" "[I", .methodLink RX7 19 Lib.Math.min.name, .static Lib.Math.min.name, .initialized "java/lang/Math", .code Lib.Math.min.name Lib.Math.min.code 2 (some .int), .fieldLink RX7 25 "SaltStreet$Tokens" "length" "I", .fieldLink RX7 28 "SaltStreet$Tokens" "next" "I", .fieldLink RX7 31 "SaltStreet$Tokens" "fault" "I", .fieldLink RX7 9 "SaltStreet$Tokens" "place" "I", .methodLink RX7 34 yX7_advance, .code yX7_advance cX7_advance 1 none, .fieldLink RX7 37 "SaltStreet$Tokens" "start" "I", .methodLink RX7 43 yX7_isLetter, .code yX7_isLetter cX7_isLetter 1 (some .boolean), .static yX7_isLetter, .initialized RX7, .methodLink RX7 58 yX7_isDigit, .code yX7_isDigit cX7_isDigit 1 (some .boolean), .static yX7_isDigit, .methodLink RX7 64 yX7_cutSign, .code yX7_cutSign cX7_cutSign 2 none, .fieldLink RX7 40 "SaltStreet$Tokens" "kind" "I", .instanceMethod yX7_cutSign]
def vds_begin_1 : List Cond := [.selects RX7 yX7_cutSign yX7_cutSign, .methodLink RX7 61 yX7_cutNumber, .code yX7_cutNumber cX7_cutNumber 1 none, .fieldLink RX7 82 "SaltStreet$Tokens" "number" "I", .instanceMethod yX7_cutNumber, .selects RX7 yX7_cutNumber yX7_cutNumber, .methodLink RX7 47 yX7_cutWord, .code yX7_cutWord cX7_cutWord 1 none, .fieldLink RX7 50 "SaltStreet$Tokens" "name" "J", .constantLong RX7 67 (27), .constantLong RX7 69 (97), .instanceMethod yX7_cutWord, .selects RX7 yX7_cutWord yX7_cutWord, .methodLink RX7 54 yX7_kindOfWord, .code yX7_kindOfWord cX7_kindOfWord 7 (some .int), .static yX7_kindOfWord, .instanceMethod yX7_advance, .selects RX7 yX7_advance yX7_advance]
def vds_begin : List Cond := (vds_begin_0 ++ vds_begin_1)
def vs_begin : List Cond := vds_begin ++ (wsX70 ++ ([] : List Cond))
theorem is_begin_X7 : ∀ w ∈ wsX70, w ∈ vs_begin := fun _ h => List.mem_append_right _ (List.mem_append_left _ h)
set_option maxRecDepth 20000 in
theorem gs_begin_34_s_advance : GoodIn vs_begin (wsV RX7 34 RX7 yX7_advance vs_advance) := (goodIn_app (goodIn_r _ [10, 40, 41, 16] rfl (by decide +kernel)) (goodIn_app (goodIn_r vds_advance [11, 7, 6, 12, 1, 13, 14, 15, 16, 17, 18, 19, 20, 21, 22, 23, 24, 25, 26, 27, 28, 29, 30, 31, 32, 33, 34, 35, 36, 37, 38, 39] rfl (by decide +kernel)) (goodIn_app (goodIn_sub is_begin_X7 gdX7) goodIn_nil)))
set_option maxHeartbeats 4000000 in
set_option maxRecDepth 100000 in
theorem s_begin (l : Launch) (D : va_G) (kc : Nat → ClassId) (sz : Nat) (xa : Nat → Nat) (tk_length : Nat) (tk_next : Nat) (tk_kind : Int32) (tk_start : Int32) (tk_number : Int32) (tk_name : Int64) (tk_taken : Int32) (tk_fault : Int32) (tk_place : Int32) (tape : Nat → Int32) (a0 : Nat) (h_tk_length : tk_length ≤ 900) (h_tk_next : tk_next ≤ 900) (h_a0 : a0 ≤ 900) : Met l yX7_begin vs_begin ({ frames := 8, cells := 0, slots := 0, locals := 246 }) (va_Pc [.ref (xa 7), .int (nI a0)] (wPre D kc [(xa 7, .inr (7, [.ref (xa 1), .int (nI tk_length), .int (nI tk_next), .int tk_kind, .int tk_start, .int tk_number, .long tk_name, .int tk_taken, .int tk_fault, .int tk_place])), (xa 1, .inl (kc 0, 900, .inl tape))] sz)) (va_Qv (fun (_ : Unit) => True) (fun (_ : Unit) (t9 : State) => ∃ tk_length_n : Nat, ∃ tk_next_n : Nat, ∃ tk_kind_n : Int32, ∃ tk_start_n : Int32, ∃ tk_number_n : Int32, ∃ tk_name_n : Int64, ∃ tk_fault_n : Int32, ∃ tk_place_n : Int32, tk_length_n ≤ 900 ∧ tk_next_n ≤ 900 ∧ va_P D vwCl [(xa 7, .inr (7, [.ref (xa 1), .int (nI tk_length_n), .int (nI tk_next_n), .int tk_kind_n, .int tk_start_n, .int tk_number_n, .long tk_name_n, .int tk_taken, .int tk_fault_n, .int tk_place_n])), (xa 1, .inl (kc 0, 900, .inl tape))] t9.heap ∧ va_D (va_A [(xa 7, .inr (7, [.ref (xa 1), .int (nI tk_length), .int (nI tk_next), .int tk_kind, .int tk_start, .int tk_number, .long tk_name, .int tk_taken, .int tk_fault, .int tk_place])), (xa 1, .inl (kc 0, 900, .inl tape))] sz) [(xa 7, .inr (7, [.ref (xa 1), .int (nI tk_length_n), .int (nI tk_next_n), .int tk_kind_n, .int tk_start_n, .int tk_number_n, .long tk_name_n, .int tk_taken, .int tk_fault_n, .int tk_place_n])), (xa 1, .inl (kc 0, 900, .inl tape))]) (va_A [(xa 7, .inr (7, [.ref (xa 1), .int (nI tk_length), .int (nI tk_next), .int tk_kind, .int tk_start, .int tk_number, .long tk_name, .int tk_taken, .int tk_fault, .int tk_place])), (xa 1, .inl (kc 0, 900, .inl tape))] sz)) 0 0 (va_A [(xa 7, .inr (7, [.ref (xa 1), .int (nI tk_length), .int (nI tk_next), .int tk_kind, .int tk_start, .int tk_number, .long tk_name, .int tk_taken, .int tk_fault, .int tk_place])), (xa 1, .inl (kc 0, 900, .inl tape))] sz) := by
  refine Met.ofW (cc := cX7_begin) (maxL := 2) (ret := none) (by decide) rfl ?_
  intro p e s m args below meth c s₁ B hml hv
  obtain ⟨rfl, hsz, hP, hE, hD0⟩ := hv
  have hx := B.exec
  have hb := B.bytes
  have hr := B.returns
  have hts := atoms_spec (ws := vs_begin) B.pre
  have hown : s.vm.findClass RX7 = some m.cls := findClass_of_methodNamed B.named
  have hlocks := B.notSynchronized
  subst hsz
  have hD := hD0.self (sz := s.heap.size)
  generalize hAe : va_A [(xa 7, .inr (7, [.ref (xa 1), .int (nI tk_length), .int (nI tk_next), .int tk_kind, .int tk_start, .int tk_number, .long tk_name, .int tk_taken, .int tk_fault, .int tk_place])), (xa 1, .inl (kc 0, 900, .inl tape))] s.heap.size = A at hD ⊢
  have hA : ∀ q : Nat, s.heap.size ≤ q → A q := fun q h => by rw [← hAe]; exact Or.inr h
  have hS : va_S A s.heap s.heap [] := va_S.rf
  have hK := hE.1
  have hP : va_P D vwCl [(xa 7, .inr (7, [.ref (xa 1), .int (nI tk_length), .int (nI tk_next), .int tk_kind, .int tk_start, .int tk_number, .long tk_name, .int tk_taken, .int tk_fault, .int tk_place])), (xa 1, .inl (kc 0, 900, .inl tape))] s.heap := hP
  have hl := lv_entry ([.ref (xa 7), .int (nI a0)]) (n := 2) (Nat.le_of_ble_eq_true rfl)
  rw [lg_entry_eq]
  generalize (lg_sl ([.ref (xa 7), .int (nI a0)]) ++ List.replicate (2 - (lg_sl ([.ref (xa 7), .int (nI a0)])).length) Slot.unset).toArray = ls at hl ⊢
  have hl : lv_has ls 2 [(0, .ref (xa 7)), (1, .int (nI a0))] := hl
  refine lv_aload_n hx hb dX7_begin_0 rfl (lv_at hl 0 rfl) ?_
  refine lv_iload_n hx hb dX7_begin_1 rfl (lv_at hl 1 rfl) ?_
  refine lv_aload_n hx hb dX7_begin_2 rfl (lv_at hl 0 rfl) ?_
  refine va_get (D := D) (ci := 7) (v := .ref (xa 1)) (C := RX7) (T := TX7) (N := 10) hx hb hts is_begin_X7 hown hK hP 0 rfl rfl 0 (by decide) (hts (.fieldLink RX7 15 "SaltStreet$Tokens" "text" "[I") (List.mem_of_getElem? (i := 1) rfl)) (fun _ h9 => h9) rfl dX7_begin_3 ?_
  refine va_alen hx hb hK hP 1 0 rfl rfl (v := 900) rfl dX7_begin_6 ?_
  refine va_mmin hx hb (by rw [hml, hl.1]) hown (hts (.methodLink RX7 19 Lib.Math.min.name) (List.mem_of_getElem? (i := 2) rfl)) (hts (.static Lib.Math.min.name) (List.mem_of_getElem? (i := 3) rfl)) (hts (.initialized "java/lang/Math") (List.mem_of_getElem? (i := 4) rfl)) (hts (.code Lib.Math.min.name Lib.Math.min.code 2 (some .int)) (List.mem_of_getElem? (i := 5) rfl)) (Nat.le_of_ble_eq_true rfl) (Nat.le_of_ble_eq_true rfl) (Nat.le_of_ble_eq_true rfl) (Nat.le_of_ble_eq_true rfl) dX7_begin_7 ?_
  obtain ⟨k1, h_k1, e_k1⟩ := min900 (n := a0) (by omega)
  refine lv_ci (y := nI k1) e_k1 ?_
  refine va_put (D := D) (ci := 7) (v := .int (nI k1)) (ty := .int) (C := RX7) (T := TX7) (N := 10) hx hb hts is_begin_X7 tyX7 tyX7_ok nmX7 hown hK hP hD hS 0 rfl rfl 1 (by decide) (hts (.fieldLink RX7 25 "SaltStreet$Tokens" "length" "I") (List.mem_of_getElem? (i := 6) rfl)) (fun _ h9 => h9) rfl (by decide +kernel) rfl rfl (Nat.le_of_ble_eq_true rfl) dX7_begin_10 (fun H locs hP hD hS => ?_)
  have hP : va_P D vwCl [(xa 7, .inr (7, [.ref (xa 1), .int (nI k1), .int (nI tk_next), .int tk_kind, .int tk_start, .int tk_number, .long tk_name, .int tk_taken, .int tk_fault, .int tk_place])), (xa 1, .inl (kc 0, 900, .inl tape))] H := hP
  have hD : va_D A [(xa 7, .inr (7, [.ref (xa 1), .int (nI k1), .int (nI tk_next), .int tk_kind, .int tk_start, .int tk_number, .long tk_name, .int tk_taken, .int tk_fault, .int tk_place])), (xa 1, .inl (kc 0, 900, .inl tape))] := hD
  refine lv_aload_n hx hb dX7_begin_13 rfl (lv_at hl 0 rfl) ?_
  refine lv_iconst (v := 0) hx hb dX7_begin_14 (by decide) ?_
  refine va_put (D := D) (ci := 7) (v := .int 0) (ty := .int) (C := RX7) (T := TX7) (N := 10) hx hb hts is_begin_X7 tyX7 tyX7_ok nmX7 hown hK hP hD hS 0 rfl rfl 2 (by decide) (hts (.fieldLink RX7 28 "SaltStreet$Tokens" "next" "I") (List.mem_of_getElem? (i := 7) rfl)) (fun _ h9 => h9) rfl (by decide +kernel) rfl rfl (Nat.le_of_ble_eq_true rfl) dX7_begin_15 (fun H locs hP hD hS => ?_)
  have hP : va_P D vwCl [(xa 7, .inr (7, [.ref (xa 1), .int (nI k1), .int 0, .int tk_kind, .int tk_start, .int tk_number, .long tk_name, .int tk_taken, .int tk_fault, .int tk_place])), (xa 1, .inl (kc 0, 900, .inl tape))] H := hP
  have hD : va_D A [(xa 7, .inr (7, [.ref (xa 1), .int (nI k1), .int 0, .int tk_kind, .int tk_start, .int tk_number, .long tk_name, .int tk_taken, .int tk_fault, .int tk_place])), (xa 1, .inl (kc 0, 900, .inl tape))] := hD
  refine lv_aload_n hx hb dX7_begin_18 rfl (lv_at hl 0 rfl) ?_
  refine lv_iconst (v := 0) hx hb dX7_begin_19 (by decide) ?_
  refine va_put (D := D) (ci := 7) (v := .int 0) (ty := .int) (C := RX7) (T := TX7) (N := 10) hx hb hts is_begin_X7 tyX7 tyX7_ok nmX7 hown hK hP hD hS 0 rfl rfl 8 (by decide) (hts (.fieldLink RX7 31 "SaltStreet$Tokens" "fault" "I") (List.mem_of_getElem? (i := 8) rfl)) (fun _ h9 => h9) rfl (by decide +kernel) rfl rfl (Nat.le_of_ble_eq_true rfl) dX7_begin_20 (fun H locs hP hD hS => ?_)
  have hP : va_P D vwCl [(xa 7, .inr (7, [.ref (xa 1), .int (nI k1), .int 0, .int tk_kind, .int tk_start, .int tk_number, .long tk_name, .int tk_taken, .int 0, .int tk_place])), (xa 1, .inl (kc 0, 900, .inl tape))] H := hP
  have hD : va_D A [(xa 7, .inr (7, [.ref (xa 1), .int (nI k1), .int 0, .int tk_kind, .int tk_start, .int tk_number, .long tk_name, .int tk_taken, .int 0, .int tk_place])), (xa 1, .inl (kc 0, 900, .inl tape))] := hD
  refine lv_aload_n hx hb dX7_begin_23 rfl (lv_at hl 0 rfl) ?_
  refine lv_iconst (v := (-1)) hx hb dX7_begin_24 (by decide) ?_
  refine va_put (D := D) (ci := 7) (v := .int (-1)) (ty := .int) (C := RX7) (T := TX7) (N := 10) hx hb hts is_begin_X7 tyX7 tyX7_ok nmX7 hown hK hP hD hS 0 rfl rfl 9 (by decide) (hts (.fieldLink RX7 9 "SaltStreet$Tokens" "place" "I") (List.mem_of_getElem? (i := 9) rfl)) (fun _ h9 => h9) rfl (by decide +kernel) rfl rfl (Nat.le_of_ble_eq_true rfl) dX7_begin_25 (fun H locs hP hD hS => ?_)
  have hP : va_P D vwCl [(xa 7, .inr (7, [.ref (xa 1), .int (nI k1), .int 0, .int tk_kind, .int tk_start, .int tk_number, .long tk_name, .int tk_taken, .int 0, .int (-1)])), (xa 1, .inl (kc 0, 900, .inl tape))] H := hP
  have hD : va_D A [(xa 7, .inr (7, [.ref (xa 1), .int (nI k1), .int 0, .int tk_kind, .int tk_start, .int tk_number, .long tk_name, .int tk_taken, .int 0, .int (-1)])), (xa 1, .inl (kc 0, 900, .inl tape))] := hD
  refine lv_aload_n hx hb dX7_begin_28 rfl (lv_at hl 0 rfl) ?_
  have hPc := hP.sub (ws' := [(xa 7, .inr (7, [.ref (xa 1), .int (nI k1), .int 0, .int tk_kind, .int tk_start, .int tk_number, .long tk_name, .int tk_taken, .int 0, .int (-1)])), (xa 1, .inl (kc 0, 900, .inl tape))]) [0, 1] rfl
  have hDc := hD.sub (ws' := [(xa 7, .inr (7, [.ref (xa 1), .int (nI k1), .int 0, .int tk_kind, .int tk_start, .int tk_number, .long tk_name, .int tk_taken, .int 0, .int (-1)])), (xa 1, .inl (kc 0, 900, .inl tape))]) [0, 1] (by decide) rfl
  have hFc := va_free (wc := [(xa 7, .inr (7, [.ref (xa 1), .int (nI k1), .int 0, .int tk_kind, .int tk_start, .int tk_number, .long tk_name, .int tk_taken, .int 0, .int (-1)])), (xa 1, .inl (kc 0, 900, .inl tape))]) hD hS hA [0, 1] rfl
  refine va_callv (va_runV (As := []) (rest := []) ⟨hx, hb, hml, hown, hts⟩ (s_advance l D kc H.size xa k1 0 tk_kind tk_start tk_number tk_name tk_taken 0 (-1) tape (by omega) (by omega)) (cwV 0 hts gs_begin_34_s_advance rfl rfl rfl (by decide +kernel) ⟨Nat.le_of_ble_eq_true rfl, Nat.le_of_ble_eq_true rfl⟩) (preV_ok hPc hDc hE (ci := 7) (q0 := 0) rfl rfl) rfl rfl hl.1 rfl (lv_room (Nat.le_of_ble_eq_true rfl)) dX7_begin_29 ⟨Nat.le_of_ble_eq_true rfl, Nat.le_of_ble_eq_true rfl⟩) hS (fun q _ h => hFc q h) hFc (fun u9 t9 H locs ht hvm hw hB hz1 hk1 hS => ?_)
  obtain ⟨k3, z4, z5, z6, y7, h_k3, hP1, hD1⟩ := hB
  rw [ht] at hP1
  obtain ⟨hP, hD⟩ := va_join (wr := []) (w1 := [(xa 7, .inr (7, [.ref (xa 1), .int (nI k1), .int (nI k3), .int z4, .int z5, .int z6, .long y7, .int tk_taken, .int 0, .int (-1)])), (xa 1, .inl (kc 0, 900, .inl tape))]) hP hD [0, 1] [] rfl rfl (by decide) (by decide) hk1 hFc hP1 hD1
  have hP : va_P D vwCl [(xa 7, .inr (7, [.ref (xa 1), .int (nI k1), .int (nI k3), .int z4, .int z5, .int z6, .long y7, .int tk_taken, .int 0, .int (-1)])), (xa 1, .inl (kc 0, 900, .inl tape))] H := hP
  have hD : va_D A [(xa 7, .inr (7, [.ref (xa 1), .int (nI k1), .int (nI k3), .int z4, .int z5, .int z6, .long y7, .int tk_taken, .int 0, .int (-1)])), (xa 1, .inl (kc 0, 900, .inl tape))] := hD
  have hP9 := hP.sub (ws' := [(xa 7, .inr (7, [.ref (xa 1), .int (nI k1), .int (nI k3), .int z4, .int z5, .int z6, .long y7, .int tk_taken, .int 0, .int (-1)])), (xa 1, .inl (kc 0, 900, .inl tape))]) [0, 1] rfl
  have hD9 := hD.sub (ws' := [(xa 7, .inr (7, [.ref (xa 1), .int (nI k1), .int (nI k3), .int z4, .int z5, .int z6, .long y7, .int tk_taken, .int 0, .int (-1)])), (xa 1, .inl (kc 0, 900, .inl tape))]) [0, 1] (by decide) rfl
  exact W.vret hx hb hr (fun t9 ht hW => ⟨⟨(), rfl, trivial, k1, k3, z4, z5, z6, y7, 0, (-1), by omega, by omega, by rw [ht]; exact hP9, hD9⟩, hS.F ht⟩) hS.2.2 dX7_begin_32
theorem dX4_numberOf_0 : decode cX4_numberOf 0 = .ok (.iconst 0, 1) := by decide +kernel
theorem dX4_numberOf_1 : decode cX4_numberOf 1 = .ok (.istore 4, 2) := by decide +kernel
theorem dX4_numberOf_3 : decode cX4_numberOf 3 = .ok (.iload 4, 2) := by decide +kernel
theorem dX4_numberOf_5 : decode cX4_numberOf 5 = .ok (.aload_n 0, 1) := by decide +kernel
theorem dX4_numberOf_6 : decode cX4_numberOf 6 = .ok (.getfield 57, 3) := by decide +kernel
theorem dX4_numberOf_9 : decode cX4_numberOf 9 = .ok (.if_icmp .ge 40, 3) := by decide +kernel
theorem dX4_numberOf_49 : decode cX4_numberOf 49 = .ok (.iconst (-1), 1) := by decide +kernel
theorem dX4_numberOf_50 : decode cX4_numberOf 50 = .ok (.ireturn, 1) := by decide +kernel
theorem dX4_numberOf_12 : decode cX4_numberOf 12 = .ok (.aload_n 0, 1) := by decide +kernel
theorem dX4_numberOf_13 : decode cX4_numberOf 13 = .ok (.getfield 9, 3) := by decide +kernel
theorem dX4_numberOf_16 : decode cX4_numberOf 16 = .ok (.iload 4, 2) := by decide +kernel
theorem dX4_numberOf_18 : decode cX4_numberOf 18 = .ok (.laload, 1) := by decide +kernel
theorem dX4_numberOf_19 : decode cX4_numberOf 19 = .ok (.lload_n 1, 1) := by decide +kernel
theorem dX4_numberOf_20 : decode cX4_numberOf 20 = .ok (.lcmp, 1) := by decide +kernel
theorem dX4_numberOf_21 : decode cX4_numberOf 21 = .ok (.ifCond .ne 22, 3) := by decide +kernel
theorem dX4_numberOf_43 : decode cX4_numberOf 43 = .ok (.iinc 4 1, 3) := by decide +kernel
theorem dX4_numberOf_46 : decode cX4_numberOf 46 = .ok (.goto (-43), 3) := by decide +kernel
theorem dX4_numberOf_24 : decode cX4_numberOf 24 = .ok (.aload_n 0, 1) := by decide +kernel
theorem dX4_numberOf_25 : decode cX4_numberOf 25 = .ok (.getfield 15, 3) := by decide +kernel
theorem dX4_numberOf_28 : decode cX4_numberOf 28 = .ok (.iload 4, 2) := by decide +kernel
theorem dX4_numberOf_30 : decode cX4_numberOf 30 = .ok (.iaload, 1) := by decide +kernel
theorem dX4_numberOf_31 : decode cX4_numberOf 31 = .ok (.iload_n 3, 1) := by decide +kernel
theorem dX4_numberOf_32 : decode cX4_numberOf 32 = .ok (.if_icmp .ne 11, 3) := by decide +kernel
theorem dX4_numberOf_35 : decode cX4_numberOf 35 = .ok (.aload_n 0, 1) := by decide +kernel
theorem dX4_numberOf_36 : decode cX4_numberOf 36 = .ok (.getfield 19, 3) := by decide +kernel
theorem dX4_numberOf_39 : decode cX4_numberOf 39 = .ok (.iload 4, 2) := by decide +kernel
theorem dX4_numberOf_41 : decode cX4_numberOf 41 = .ok (.iaload, 1) := by decide +kernel
theorem dX4_numberOf_42 : decode cX4_numberOf 42 = .ok (.ireturn, 1) := by decide +kernel
def vds_numberOf : List Cond := [.code yX4_numberOf cX4_numberOf 5 (some .int), .fieldLink RX4 57 "SaltStreet$Plan" "named" "I", .fieldLink RX4 9 "SaltStreet$Plan" "names" "[J", .fieldLink RX4 15 "SaltStreet$Plan" "sorts" "[I", .fieldLink RX4 19 "SaltStreet$Plan" "numbers" "[I"]
def vs_numberOf : List Cond := vds_numberOf ++ (wsX40 ++ ([] : List Cond))
theorem is_numberOf_X4 : ∀ w ∈ wsX40, w ∈ vs_numberOf := fun _ h => List.mem_append_right _ (List.mem_append_left _ h)
set_option maxHeartbeats 4000000 in
set_option maxRecDepth 100000 in
theorem s_numberOf (l : Launch) (D : va_G) (kc : Nat → ClassId) (sz : Nat) (na : Nat → Nat) (na_named : Nat) (na_houses : Nat) (na_quarrels : Nat) (na_cats : Nat) (na_grocers : Nat) (na_gone : Int32) (na_washes : Int32) (na_goneCounts : Int32) (na_names : Nat → Int64) (na_sorts : Nat → Int32) (na_numbers : Nat → Int32) (b0 : Int64) (a0 : Int32) (h_na_named : na_named ≤ 24) (h_na_houses : na_houses ≤ 8) (h_na_quarrels : na_quarrels ≤ 8) (h_na_cats : na_cats ≤ 4) (h_na_grocers : na_grocers ≤ 4) (h_na_goneCounts : na_goneCounts = 0 ∨ na_goneCounts = 1) (h_na_numbers : R8 na_numbers) : Met l yX4_numberOf vs_numberOf ({ frames := 0, cells := 0, slots := 0, locals := 0 }) (va_Pc [.ref (na 1), .long b0, .int a0] (wPre D kc [(na 1, .inr (4, [.ref (na 4), .ref (na 5), .ref (na 6), .ref (na 7), .ref (na 8), .ref (na 9), .ref (na 10), .ref (na 11), .ref (na 12), .ref (na 13), .ref (na 14), .ref (na 15), .int (nI na_named), .int (nI na_houses), .int (nI na_quarrels), .int (nI na_cats), .int (nI na_grocers), .int na_gone, .int na_washes, .int na_goneCounts])), (na 4, .inl (kc 1, 24, .inr (.inl na_names))), (na 5, .inl (kc 0, 24, .inl na_sorts)), (na 6, .inl (kc 0, 24, .inl na_numbers))] sz)) (va_Qi (fun (r : Int32) (_ : Unit) => (r = -1 ∨ ∃ q, q < 8 ∧ r = nI q)) (fun (_ : Unit) (t9 : State) => va_P D vwCl [(na 1, .inr (4, [.ref (na 4), .ref (na 5), .ref (na 6), .ref (na 7), .ref (na 8), .ref (na 9), .ref (na 10), .ref (na 11), .ref (na 12), .ref (na 13), .ref (na 14), .ref (na 15), .int (nI na_named), .int (nI na_houses), .int (nI na_quarrels), .int (nI na_cats), .int (nI na_grocers), .int na_gone, .int na_washes, .int na_goneCounts])), (na 4, .inl (kc 1, 24, .inr (.inl na_names))), (na 5, .inl (kc 0, 24, .inl na_sorts)), (na 6, .inl (kc 0, 24, .inl na_numbers))] t9.heap ∧ va_D (va_A [(na 1, .inr (4, [.ref (na 4), .ref (na 5), .ref (na 6), .ref (na 7), .ref (na 8), .ref (na 9), .ref (na 10), .ref (na 11), .ref (na 12), .ref (na 13), .ref (na 14), .ref (na 15), .int (nI na_named), .int (nI na_houses), .int (nI na_quarrels), .int (nI na_cats), .int (nI na_grocers), .int na_gone, .int na_washes, .int na_goneCounts])), (na 4, .inl (kc 1, 24, .inr (.inl na_names))), (na 5, .inl (kc 0, 24, .inl na_sorts)), (na 6, .inl (kc 0, 24, .inl na_numbers))] sz) [(na 1, .inr (4, [.ref (na 4), .ref (na 5), .ref (na 6), .ref (na 7), .ref (na 8), .ref (na 9), .ref (na 10), .ref (na 11), .ref (na 12), .ref (na 13), .ref (na 14), .ref (na 15), .int (nI na_named), .int (nI na_houses), .int (nI na_quarrels), .int (nI na_cats), .int (nI na_grocers), .int na_gone, .int na_washes, .int na_goneCounts])), (na 4, .inl (kc 1, 24, .inr (.inl na_names))), (na 5, .inl (kc 0, 24, .inl na_sorts)), (na 6, .inl (kc 0, 24, .inl na_numbers))]) (va_A [(na 1, .inr (4, [.ref (na 4), .ref (na 5), .ref (na 6), .ref (na 7), .ref (na 8), .ref (na 9), .ref (na 10), .ref (na 11), .ref (na 12), .ref (na 13), .ref (na 14), .ref (na 15), .int (nI na_named), .int (nI na_houses), .int (nI na_quarrels), .int (nI na_cats), .int (nI na_grocers), .int na_gone, .int na_washes, .int na_goneCounts])), (na 4, .inl (kc 1, 24, .inr (.inl na_names))), (na 5, .inl (kc 0, 24, .inl na_sorts)), (na 6, .inl (kc 0, 24, .inl na_numbers))] sz)) 0 0 (va_A [(na 1, .inr (4, [.ref (na 4), .ref (na 5), .ref (na 6), .ref (na 7), .ref (na 8), .ref (na 9), .ref (na 10), .ref (na 11), .ref (na 12), .ref (na 13), .ref (na 14), .ref (na 15), .int (nI na_named), .int (nI na_houses), .int (nI na_quarrels), .int (nI na_cats), .int (nI na_grocers), .int na_gone, .int na_washes, .int na_goneCounts])), (na 4, .inl (kc 1, 24, .inr (.inl na_names))), (na 5, .inl (kc 0, 24, .inl na_sorts)), (na 6, .inl (kc 0, 24, .inl na_numbers))] sz) := by
  refine Met.ofW (cc := cX4_numberOf) (maxL := 5) (ret := (some .int)) (by decide) rfl ?_
  intro p e s m args below meth c s₁ B hml hv
  obtain ⟨rfl, hsz, hP, hE, hD0⟩ := hv
  have hx := B.exec
  have hb := B.bytes
  have hr := B.returns
  have hts := atoms_spec (ws := vs_numberOf) B.pre
  have hown : s.vm.findClass RX4 = some m.cls := findClass_of_methodNamed B.named
  have hlocks := B.notSynchronized
  subst hsz
  have hD := hD0.self (sz := s.heap.size)
  generalize hAe : va_A [(na 1, .inr (4, [.ref (na 4), .ref (na 5), .ref (na 6), .ref (na 7), .ref (na 8), .ref (na 9), .ref (na 10), .ref (na 11), .ref (na 12), .ref (na 13), .ref (na 14), .ref (na 15), .int (nI na_named), .int (nI na_houses), .int (nI na_quarrels), .int (nI na_cats), .int (nI na_grocers), .int na_gone, .int na_washes, .int na_goneCounts])), (na 4, .inl (kc 1, 24, .inr (.inl na_names))), (na 5, .inl (kc 0, 24, .inl na_sorts)), (na 6, .inl (kc 0, 24, .inl na_numbers))] s.heap.size = A at hD ⊢
  have hA : ∀ q : Nat, s.heap.size ≤ q → A q := fun q h => by rw [← hAe]; exact Or.inr h
  have hS : va_S A s.heap s.heap [] := va_S.rf
  have hK := hE.1
  have hP : va_P D vwCl [(na 1, .inr (4, [.ref (na 4), .ref (na 5), .ref (na 6), .ref (na 7), .ref (na 8), .ref (na 9), .ref (na 10), .ref (na 11), .ref (na 12), .ref (na 13), .ref (na 14), .ref (na 15), .int (nI na_named), .int (nI na_houses), .int (nI na_quarrels), .int (nI na_cats), .int (nI na_grocers), .int na_gone, .int na_washes, .int na_goneCounts])), (na 4, .inl (kc 1, 24, .inr (.inl na_names))), (na 5, .inl (kc 0, 24, .inl na_sorts)), (na 6, .inl (kc 0, 24, .inl na_numbers))] s.heap := hP
  have hl := lv_entry ([.ref (na 1), .long b0, .int a0]) (n := 5) (Nat.le_of_ble_eq_true rfl)
  rw [lg_entry_eq]
  generalize (lg_sl ([.ref (na 1), .long b0, .int a0]) ++ List.replicate (5 - (lg_sl ([.ref (na 1), .long b0, .int a0])).length) Slot.unset).toArray = ls at hl ⊢
  have hl : lv_has ls 5 [(0, .ref (na 1)), (1, .long b0), (3, .int a0)] := hl
  refine lv_iconst (v := 0) hx hb dX4_numberOf_0 (by decide) ?_
  refine lv_istore (lv' := [(4, .int 0), (0, .ref (na 1)), (1, .long b0), (3, .int a0)]) hx hb dX4_numberOf_1 hl (by decide) rfl (fun ls hl => ?_)
  have loop_n9_3_10 : ∀ (n9_3_10 : Nat) (i9 : Nat), i9 ≤ na_named → na_named < i9 + n9_3_10 → ∀ (H : Heap) (locs : List Loc) (ls : Array Slot), va_P D vwCl [(na 1, .inr (4, [.ref (na 4), .ref (na 5), .ref (na 6), .ref (na 7), .ref (na 8), .ref (na 9), .ref (na 10), .ref (na 11), .ref (na 12), .ref (na 13), .ref (na 14), .ref (na 15), .int (nI na_named), .int (nI na_houses), .int (nI na_quarrels), .int (nI na_cats), .int (nI na_grocers), .int na_gone, .int na_washes, .int na_goneCounts])), (na 4, .inl (kc 1, 24, .inr (.inl na_names))), (na 5, .inl (kc 0, 24, .inl na_sorts)), (na 6, .inl (kc 0, 24, .inl na_numbers))] H → va_D A [(na 1, .inr (4, [.ref (na 4), .ref (na 5), .ref (na 6), .ref (na 7), .ref (na 8), .ref (na 9), .ref (na 10), .ref (na 11), .ref (na 12), .ref (na 13), .ref (na 14), .ref (na 15), .int (nI na_named), .int (nI na_houses), .int (nI na_quarrels), .int (nI na_cats), .int (nI na_grocers), .int na_gone, .int na_washes, .int na_goneCounts])), (na 4, .inl (kc 1, 24, .inr (.inl na_names))), (na 5, .inl (kc 0, 24, .inl na_sorts)), (na 6, .inl (kc 0, 24, .inl na_numbers))] → va_S A s.heap H locs → lv_has ls 5 [(4, .int (nI i9)), (0, .ref (na 1)), (1, .long b0), (3, .int a0)] → W p l e (headSpec vs_numberOf ({ frames := 0, cells := 0, slots := 0, locals := 0 })).room s m [.ref (na 1), .long b0, .int a0].toArray below meth c H locs 0 0 (MQ below (va_Qi (fun (r : Int32) (_ : Unit) => (r = -1 ∨ ∃ q, q < 8 ∧ r = nI q)) (fun (_ : Unit) (t9 : State) => va_P D vwCl [(na 1, .inr (4, [.ref (na 4), .ref (na 5), .ref (na 6), .ref (na 7), .ref (na 8), .ref (na 9), .ref (na 10), .ref (na 11), .ref (na 12), .ref (na 13), .ref (na 14), .ref (na 15), .int (nI na_named), .int (nI na_houses), .int (nI na_quarrels), .int (nI na_cats), .int (nI na_grocers), .int na_gone, .int na_washes, .int na_goneCounts])), (na 4, .inl (kc 1, 24, .inr (.inl na_names))), (na 5, .inl (kc 0, 24, .inl na_sorts)), (na 6, .inl (kc 0, 24, .inl na_numbers))] t9.heap ∧ va_D A [(na 1, .inr (4, [.ref (na 4), .ref (na 5), .ref (na 6), .ref (na 7), .ref (na 8), .ref (na 9), .ref (na 10), .ref (na 11), .ref (na 12), .ref (na 13), .ref (na 14), .ref (na 15), .int (nI na_named), .int (nI na_houses), .int (nI na_quarrels), .int (nI na_cats), .int (nI na_grocers), .int na_gone, .int na_washes, .int na_goneCounts])), (na 4, .inl (kc 1, 24, .inr (.inl na_names))), (na 5, .inl (kc 0, 24, .inl na_sorts)), (na 6, .inl (kc 0, 24, .inl na_numbers))]) A) [.ref (na 1), .long b0, .int a0].toArray s 0 0 A) (F0 m 3 ls []) := by
    intro n9_3_10
    induction n9_3_10 with
    | zero => intro i9   h1 h2; exact absurd h2 (by omega)
    | succ n9_3_10 ih_n9_3_10 =>
      intro i9   h1_n9_3_10 h2_n9_3_10 H locs ls hP hD hS hl
      refine lv_iload hx hb dX4_numberOf_3 (lv_at hl 0 rfl) ?_
      refine lv_aload_n hx hb dX4_numberOf_5 rfl (lv_at hl 1 rfl) ?_
      refine va_get (D := D) (ci := 4) (v := .int (nI na_named)) (C := RX4) (T := TX4) (N := 20) hx hb hts is_numberOf_X4 hown hK hP 0 rfl rfl 12 (by decide) (hts (.fieldLink RX4 57 "SaltStreet$Plan" "named" "I") (List.mem_of_getElem? (i := 1) rfl)) (fun _ h9 => h9) rfl dX4_numberOf_6 ?_
      refine lv_icmp_ge (tgt := 49) hx hb dX4_numberOf_9 (by decide) (fun c11 => ?_) (fun c11 => ?_)
      · have nc11 := (nI_leI (a := na_named) (b := i9) (by omega) (by omega)).mp c11
        refine lv_iconst (v := (-1)) hx hb dX4_numberOf_49 (by decide) ?_
        have hP9 := hP.sub (ws' := [(na 1, .inr (4, [.ref (na 4), .ref (na 5), .ref (na 6), .ref (na 7), .ref (na 8), .ref (na 9), .ref (na 10), .ref (na 11), .ref (na 12), .ref (na 13), .ref (na 14), .ref (na 15), .int (nI na_named), .int (nI na_houses), .int (nI na_quarrels), .int (nI na_cats), .int (nI na_grocers), .int na_gone, .int na_washes, .int na_goneCounts])), (na 4, .inl (kc 1, 24, .inr (.inl na_names))), (na 5, .inl (kc 0, 24, .inl na_sorts)), (na 6, .inl (kc 0, 24, .inl na_numbers))]) [0, 1, 2, 3] rfl
        have hD9 := hD.sub (ws' := [(na 1, .inr (4, [.ref (na 4), .ref (na 5), .ref (na 6), .ref (na 7), .ref (na 8), .ref (na 9), .ref (na 10), .ref (na 11), .ref (na 12), .ref (na 13), .ref (na 14), .ref (na 15), .int (nI na_named), .int (nI na_houses), .int (nI na_quarrels), .int (nI na_cats), .int (nI na_grocers), .int na_gone, .int na_washes, .int na_goneCounts])), (na 4, .inl (kc 1, 24, .inr (.inl na_names))), (na 5, .inl (kc 0, 24, .inl na_sorts)), (na 6, .inl (kc 0, 24, .inl na_numbers))]) [0, 1, 2, 3] (by decide) rfl
        exact W.iret (v := (-1)) hx hb hr (fun t9 ht hW => ⟨⟨(-1), (), rfl, Or.inl rfl, by rw [ht]; exact hP9, hD9⟩, hS.F ht⟩) hS.2.2 dX4_numberOf_50
      · have nc11 := Nat.not_le.mp (fun q => c11 ((nI_leI (a := na_named) (b := i9) (by omega) (by omega)).mpr q))
        refine lv_aload_n hx hb dX4_numberOf_12 rfl (lv_at hl 1 rfl) ?_
        refine va_get (D := D) (ci := 4) (v := .ref (na 4)) (C := RX4) (T := TX4) (N := 20) hx hb hts is_numberOf_X4 hown hK hP 0 rfl rfl 0 (by decide) (hts (.fieldLink RX4 9 "SaltStreet$Plan" "names" "[J") (List.mem_of_getElem? (i := 2) rfl)) (fun _ h9 => h9) rfl dX4_numberOf_13 ?_
        refine lv_iload hx hb dX4_numberOf_16 (lv_at hl 0 rfl) ?_
        refine va_lald hx hb hK hP 1 1 (f := na_names) rfl rfl (vp_in_nI (by omega) (by decide)) dX4_numberOf_18 ?_
        refine lv_topl (fun y12 _ => ?_)
        refine lv_lload_n hx hb dX4_numberOf_19 rfl (lv_at hl 2 rfl) ?_
        refine W.lcmp hx hb dX4_numberOf_20 ?_
        refine lv_topi (fun z13 _ => ?_)
        refine lv_if_ne (tgt := 43) hx hb dX4_numberOf_21 (by decide) (fun c14 => ?_) (fun c14 => ?_)
        · refine lv_iinc (v := (nI (i9 + 1))) (lv' := [(4, .int (nI (i9 + 1))), (0, .ref (na 1)), (1, .long b0), (3, .int a0)]) hx hb dX4_numberOf_43 hl (k := 0) rfl (nI_1 _) (by decide) rfl (fun ls hl => ?_)
          refine lv_goto (tgt := 3) hx hb dX4_numberOf_46 (by decide) ?_
          exact ih_n9_3_10 (i9 + 1) (by omega) (by omega) _ _ ls hP hD hS (lv_sub hl [0, 1, 2, 3] rfl)
        · refine lv_aload_n hx hb dX4_numberOf_24 rfl (lv_at hl 1 rfl) ?_
          refine va_get (D := D) (ci := 4) (v := .ref (na 5)) (C := RX4) (T := TX4) (N := 20) hx hb hts is_numberOf_X4 hown hK hP 0 rfl rfl 1 (by decide) (hts (.fieldLink RX4 15 "SaltStreet$Plan" "sorts" "[I") (List.mem_of_getElem? (i := 3) rfl)) (fun _ h9 => h9) rfl dX4_numberOf_25 ?_
          refine lv_iload hx hb dX4_numberOf_28 (lv_at hl 0 rfl) ?_
          refine va_iald hx hb hK hP 2 0 (f := na_sorts) rfl rfl (vp_in_nI (by omega) (by decide)) dX4_numberOf_30 ?_
          refine lv_topi (fun z15 _ => ?_)
          refine lv_iload_n hx hb dX4_numberOf_31 rfl (lv_at hl 3 rfl) ?_
          refine lv_icmp_ne (tgt := 43) hx hb dX4_numberOf_32 (by decide) (fun c16 => ?_) (fun c16 => ?_)
          · refine lv_iinc (v := (nI (i9 + 1))) (lv' := [(4, .int (nI (i9 + 1))), (0, .ref (na 1)), (1, .long b0), (3, .int a0)]) hx hb dX4_numberOf_43 hl (k := 0) rfl (nI_1 _) (by decide) rfl (fun ls hl => ?_)
            refine lv_goto (tgt := 3) hx hb dX4_numberOf_46 (by decide) ?_
            exact ih_n9_3_10 (i9 + 1) (by omega) (by omega) _ _ ls hP hD hS (lv_sub hl [0, 1, 2, 3] rfl)
          · refine lv_aload_n hx hb dX4_numberOf_35 rfl (lv_at hl 1 rfl) ?_
            refine va_get (D := D) (ci := 4) (v := .ref (na 6)) (C := RX4) (T := TX4) (N := 20) hx hb hts is_numberOf_X4 hown hK hP 0 rfl rfl 2 (by decide) (hts (.fieldLink RX4 19 "SaltStreet$Plan" "numbers" "[I") (List.mem_of_getElem? (i := 4) rfl)) (fun _ h9 => h9) rfl dX4_numberOf_36 ?_
            refine lv_iload hx hb dX4_numberOf_39 (lv_at hl 0 rfl) ?_
            refine va_iald hx hb hK hP 3 0 (f := na_numbers) rfl rfl (vp_in_nI (by omega) (by decide)) dX4_numberOf_41 ?_
            obtain ⟨k17, h_k17, e_k17⟩ := h_na_numbers ((nI i9) : Int32).toNatClampNeg
            refine lv_ci (y := nI k17) e_k17 ?_
            have hP9 := hP.sub (ws' := [(na 1, .inr (4, [.ref (na 4), .ref (na 5), .ref (na 6), .ref (na 7), .ref (na 8), .ref (na 9), .ref (na 10), .ref (na 11), .ref (na 12), .ref (na 13), .ref (na 14), .ref (na 15), .int (nI na_named), .int (nI na_houses), .int (nI na_quarrels), .int (nI na_cats), .int (nI na_grocers), .int na_gone, .int na_washes, .int na_goneCounts])), (na 4, .inl (kc 1, 24, .inr (.inl na_names))), (na 5, .inl (kc 0, 24, .inl na_sorts)), (na 6, .inl (kc 0, 24, .inl na_numbers))]) [0, 1, 2, 3] rfl
            have hD9 := hD.sub (ws' := [(na 1, .inr (4, [.ref (na 4), .ref (na 5), .ref (na 6), .ref (na 7), .ref (na 8), .ref (na 9), .ref (na 10), .ref (na 11), .ref (na 12), .ref (na 13), .ref (na 14), .ref (na 15), .int (nI na_named), .int (nI na_houses), .int (nI na_quarrels), .int (nI na_cats), .int (nI na_grocers), .int na_gone, .int na_washes, .int na_goneCounts])), (na 4, .inl (kc 1, 24, .inr (.inl na_names))), (na 5, .inl (kc 0, 24, .inl na_sorts)), (na 6, .inl (kc 0, 24, .inl na_numbers))]) [0, 1, 2, 3] (by decide) rfl
            exact W.iret (v := (nI k17)) hx hb hr (fun t9 ht hW => ⟨⟨(nI k17), (), rfl, Or.inr ⟨k17, by omega, rfl⟩, by rw [ht]; exact hP9, hD9⟩, hS.F ht⟩) hS.2.2 dX4_numberOf_42
  exact loop_n9_3_10 (na_named + 1) 0 (by omega) (by omega) _ _ ls hP hD hS (lv_sub hl [0, 1, 2, 3] rfl)
theorem dX4_joinAt_0 : decode cX4_joinAt 0 = .ok (.aload_n 0, 1) := by decide +kernel
theorem dX4_joinAt_1 : decode cX4_joinAt 1 = .ok (.getfield 31, 3) := by decide +kernel
theorem dX4_joinAt_4 : decode cX4_joinAt 4 = .ok (.aload_n 0, 1) := by decide +kernel
theorem dX4_joinAt_5 : decode cX4_joinAt 5 = .ok (.getfield 22, 3) := by decide +kernel
theorem dX4_joinAt_8 : decode cX4_joinAt 8 = .ok (.iload_n 1, 1) := by decide +kernel
theorem dX4_joinAt_9 : decode cX4_joinAt 9 = .ok (.iaload, 1) := by decide +kernel
theorem dX4_joinAt_10 : decode cX4_joinAt 10 = .ok (.dup2, 1) := by decide +kernel
theorem dX4_joinAt_11 : decode cX4_joinAt 11 = .ok (.iaload, 1) := by decide +kernel
theorem dX4_joinAt_12 : decode cX4_joinAt 12 = .ok (.iconst 1, 1) := by decide +kernel
theorem dX4_joinAt_13 : decode cX4_joinAt 13 = .ok (.iload_n 1, 1) := by decide +kernel
theorem dX4_joinAt_14 : decode cX4_joinAt 14 = .ok (.ishl, 1) := by decide +kernel
theorem dX4_joinAt_15 : decode cX4_joinAt 15 = .ok (.ior, 1) := by decide +kernel
theorem dX4_joinAt_16 : decode cX4_joinAt 16 = .ok (.iastore, 1) := by decide +kernel
theorem dX4_joinAt_17 : decode cX4_joinAt 17 = .ok (.aload_n 0, 1) := by decide +kernel
theorem dX4_joinAt_18 : decode cX4_joinAt 18 = .ok (.getfield 31, 3) := by decide +kernel
theorem dX4_joinAt_21 : decode cX4_joinAt 21 = .ok (.aload_n 0, 1) := by decide +kernel
theorem dX4_joinAt_22 : decode cX4_joinAt 22 = .ok (.getfield 25, 3) := by decide +kernel
theorem dX4_joinAt_25 : decode cX4_joinAt 25 = .ok (.iload_n 1, 1) := by decide +kernel
theorem dX4_joinAt_26 : decode cX4_joinAt 26 = .ok (.iaload, 1) := by decide +kernel
theorem dX4_joinAt_27 : decode cX4_joinAt 27 = .ok (.dup2, 1) := by decide +kernel
theorem dX4_joinAt_28 : decode cX4_joinAt 28 = .ok (.iaload, 1) := by decide +kernel
theorem dX4_joinAt_29 : decode cX4_joinAt 29 = .ok (.iconst 1, 1) := by decide +kernel
theorem dX4_joinAt_30 : decode cX4_joinAt 30 = .ok (.iload_n 1, 1) := by decide +kernel
theorem dX4_joinAt_31 : decode cX4_joinAt 31 = .ok (.ishl, 1) := by decide +kernel
theorem dX4_joinAt_32 : decode cX4_joinAt 32 = .ok (.ior, 1) := by decide +kernel
theorem dX4_joinAt_33 : decode cX4_joinAt 33 = .ok (.iastore, 1) := by decide +kernel
theorem dX4_joinAt_34 : decode cX4_joinAt 34 = .ok (.return_, 1) := by decide +kernel
def vds_joinAt : List Cond := [.code yX4_joinAt cX4_joinAt 2 none, .fieldLink RX4 31 "SaltStreet$Plan" "quarrelsAt" "[I", .fieldLink RX4 22 "SaltStreet$Plan" "one" "[I", .fieldLink RX4 25 "SaltStreet$Plan" "other" "[I"]
def vs_joinAt : List Cond := vds_joinAt ++ (wsX40 ++ ([] : List Cond))
theorem is_joinAt_X4 : ∀ w ∈ wsX40, w ∈ vs_joinAt := fun _ h => List.mem_append_right _ (List.mem_append_left _ h)
set_option maxHeartbeats 4000000 in
set_option maxRecDepth 100000 in
theorem s_joinAt (l : Launch) (D : va_G) (kc : Nat → ClassId) (sz : Nat) (na : Nat → Nat) (na_named : Nat) (na_houses : Nat) (na_quarrels : Nat) (na_cats : Nat) (na_grocers : Nat) (na_gone : Int32) (na_washes : Int32) (na_goneCounts : Int32) (na_one : Nat → Int32) (na_other : Nat → Int32) (na_quarrelsAt : Nat → Int32) (a0 : Nat) (h_na_named : na_named ≤ 24) (h_na_houses : na_houses ≤ 8) (h_na_quarrels : na_quarrels ≤ 8) (h_na_cats : na_cats ≤ 4) (h_na_grocers : na_grocers ≤ 4) (h_na_goneCounts : na_goneCounts = 0 ∨ na_goneCounts = 1) (h_na_one : R8 na_one) (h_na_other : R8 na_other) (h_a0 : a0 ≤ 7) : Met l yX4_joinAt vs_joinAt ({ frames := 0, cells := 0, slots := 0, locals := 0 }) (va_Pc [.ref (na 1), .int (nI a0)] (wPre D kc [(na 1, .inr (4, [.ref (na 4), .ref (na 5), .ref (na 6), .ref (na 7), .ref (na 8), .ref (na 9), .ref (na 10), .ref (na 11), .ref (na 12), .ref (na 13), .ref (na 14), .ref (na 15), .int (nI na_named), .int (nI na_houses), .int (nI na_quarrels), .int (nI na_cats), .int (nI na_grocers), .int na_gone, .int na_washes, .int na_goneCounts])), (na 7, .inl (kc 0, 8, .inl na_one)), (na 8, .inl (kc 0, 8, .inl na_other)), (na 10, .inl (kc 0, 8, .inl na_quarrelsAt))] sz)) (va_Qv (fun (_ : Unit) => True) (fun (_ : Unit) (t9 : State) => ∃ na_quarrelsAt_n : Nat → Int32, va_P D vwCl [(na 1, .inr (4, [.ref (na 4), .ref (na 5), .ref (na 6), .ref (na 7), .ref (na 8), .ref (na 9), .ref (na 10), .ref (na 11), .ref (na 12), .ref (na 13), .ref (na 14), .ref (na 15), .int (nI na_named), .int (nI na_houses), .int (nI na_quarrels), .int (nI na_cats), .int (nI na_grocers), .int na_gone, .int na_washes, .int na_goneCounts])), (na 7, .inl (kc 0, 8, .inl na_one)), (na 8, .inl (kc 0, 8, .inl na_other)), (na 10, .inl (kc 0, 8, .inl na_quarrelsAt_n))] t9.heap ∧ va_D (va_A [(na 1, .inr (4, [.ref (na 4), .ref (na 5), .ref (na 6), .ref (na 7), .ref (na 8), .ref (na 9), .ref (na 10), .ref (na 11), .ref (na 12), .ref (na 13), .ref (na 14), .ref (na 15), .int (nI na_named), .int (nI na_houses), .int (nI na_quarrels), .int (nI na_cats), .int (nI na_grocers), .int na_gone, .int na_washes, .int na_goneCounts])), (na 7, .inl (kc 0, 8, .inl na_one)), (na 8, .inl (kc 0, 8, .inl na_other)), (na 10, .inl (kc 0, 8, .inl na_quarrelsAt))] sz) [(na 1, .inr (4, [.ref (na 4), .ref (na 5), .ref (na 6), .ref (na 7), .ref (na 8), .ref (na 9), .ref (na 10), .ref (na 11), .ref (na 12), .ref (na 13), .ref (na 14), .ref (na 15), .int (nI na_named), .int (nI na_houses), .int (nI na_quarrels), .int (nI na_cats), .int (nI na_grocers), .int na_gone, .int na_washes, .int na_goneCounts])), (na 7, .inl (kc 0, 8, .inl na_one)), (na 8, .inl (kc 0, 8, .inl na_other)), (na 10, .inl (kc 0, 8, .inl na_quarrelsAt_n))]) (va_A [(na 1, .inr (4, [.ref (na 4), .ref (na 5), .ref (na 6), .ref (na 7), .ref (na 8), .ref (na 9), .ref (na 10), .ref (na 11), .ref (na 12), .ref (na 13), .ref (na 14), .ref (na 15), .int (nI na_named), .int (nI na_houses), .int (nI na_quarrels), .int (nI na_cats), .int (nI na_grocers), .int na_gone, .int na_washes, .int na_goneCounts])), (na 7, .inl (kc 0, 8, .inl na_one)), (na 8, .inl (kc 0, 8, .inl na_other)), (na 10, .inl (kc 0, 8, .inl na_quarrelsAt))] sz)) 0 0 (va_A [(na 1, .inr (4, [.ref (na 4), .ref (na 5), .ref (na 6), .ref (na 7), .ref (na 8), .ref (na 9), .ref (na 10), .ref (na 11), .ref (na 12), .ref (na 13), .ref (na 14), .ref (na 15), .int (nI na_named), .int (nI na_houses), .int (nI na_quarrels), .int (nI na_cats), .int (nI na_grocers), .int na_gone, .int na_washes, .int na_goneCounts])), (na 7, .inl (kc 0, 8, .inl na_one)), (na 8, .inl (kc 0, 8, .inl na_other)), (na 10, .inl (kc 0, 8, .inl na_quarrelsAt))] sz) := by
  refine Met.ofW (cc := cX4_joinAt) (maxL := 2) (ret := none) (by decide) rfl ?_
  intro p e s m args below meth c s₁ B hml hv
  obtain ⟨rfl, hsz, hP, hE, hD0⟩ := hv
  have hx := B.exec
  have hb := B.bytes
  have hr := B.returns
  have hts := atoms_spec (ws := vs_joinAt) B.pre
  have hown : s.vm.findClass RX4 = some m.cls := findClass_of_methodNamed B.named
  have hlocks := B.notSynchronized
  subst hsz
  have hD := hD0.self (sz := s.heap.size)
  generalize hAe : va_A [(na 1, .inr (4, [.ref (na 4), .ref (na 5), .ref (na 6), .ref (na 7), .ref (na 8), .ref (na 9), .ref (na 10), .ref (na 11), .ref (na 12), .ref (na 13), .ref (na 14), .ref (na 15), .int (nI na_named), .int (nI na_houses), .int (nI na_quarrels), .int (nI na_cats), .int (nI na_grocers), .int na_gone, .int na_washes, .int na_goneCounts])), (na 7, .inl (kc 0, 8, .inl na_one)), (na 8, .inl (kc 0, 8, .inl na_other)), (na 10, .inl (kc 0, 8, .inl na_quarrelsAt))] s.heap.size = A at hD ⊢
  have hA : ∀ q : Nat, s.heap.size ≤ q → A q := fun q h => by rw [← hAe]; exact Or.inr h
  have hS : va_S A s.heap s.heap [] := va_S.rf
  have hK := hE.1
  have hP : va_P D vwCl [(na 1, .inr (4, [.ref (na 4), .ref (na 5), .ref (na 6), .ref (na 7), .ref (na 8), .ref (na 9), .ref (na 10), .ref (na 11), .ref (na 12), .ref (na 13), .ref (na 14), .ref (na 15), .int (nI na_named), .int (nI na_houses), .int (nI na_quarrels), .int (nI na_cats), .int (nI na_grocers), .int na_gone, .int na_washes, .int na_goneCounts])), (na 7, .inl (kc 0, 8, .inl na_one)), (na 8, .inl (kc 0, 8, .inl na_other)), (na 10, .inl (kc 0, 8, .inl na_quarrelsAt))] s.heap := hP
  have hl := lv_entry ([.ref (na 1), .int (nI a0)]) (n := 2) (Nat.le_of_ble_eq_true rfl)
  rw [lg_entry_eq]
  generalize (lg_sl ([.ref (na 1), .int (nI a0)]) ++ List.replicate (2 - (lg_sl ([.ref (na 1), .int (nI a0)])).length) Slot.unset).toArray = ls at hl ⊢
  have hl : lv_has ls 2 [(0, .ref (na 1)), (1, .int (nI a0))] := hl
  refine lv_aload_n hx hb dX4_joinAt_0 rfl (lv_at hl 0 rfl) ?_
  refine va_get (D := D) (ci := 4) (v := .ref (na 10)) (C := RX4) (T := TX4) (N := 20) hx hb hts is_joinAt_X4 hown hK hP 0 rfl rfl 6 (by decide) (hts (.fieldLink RX4 31 "SaltStreet$Plan" "quarrelsAt" "[I") (List.mem_of_getElem? (i := 1) rfl)) (fun _ h9 => h9) rfl dX4_joinAt_1 ?_
  refine lv_aload_n hx hb dX4_joinAt_4 rfl (lv_at hl 0 rfl) ?_
  refine va_get (D := D) (ci := 4) (v := .ref (na 7)) (C := RX4) (T := TX4) (N := 20) hx hb hts is_joinAt_X4 hown hK hP 0 rfl rfl 3 (by decide) (hts (.fieldLink RX4 22 "SaltStreet$Plan" "one" "[I") (List.mem_of_getElem? (i := 2) rfl)) (fun _ h9 => h9) rfl dX4_joinAt_5 ?_
  refine lv_iload_n hx hb dX4_joinAt_8 rfl (lv_at hl 1 rfl) ?_
  refine va_iald hx hb hK hP 1 0 (f := na_one) rfl rfl (vp_in_nI (by omega) (by decide)) dX4_joinAt_9 ?_
  obtain ⟨k1, h_k1, e_k1⟩ := h_na_one ((nI a0) : Int32).toNatClampNeg
  refine lv_ci (y := nI k1) e_k1 ?_
  refine lv_dup2_11 hx hb dX4_joinAt_10 rfl rfl ?_
  refine va_iald hx hb hK hP 3 0 (f := na_quarrelsAt) rfl rfl (vp_in_nI (by omega) (by decide)) dX4_joinAt_11 ?_
  refine lv_topi (fun z2 _ => ?_)
  refine lv_iconst (v := 1) hx hb dX4_joinAt_12 (by decide) ?_
  refine lv_iload_n hx hb dX4_joinAt_13 rfl (lv_at hl 1 rfl) ?_
  refine lv_ishl hx hb dX4_joinAt_14 ?_
  refine lv_topi (fun z3 _ => ?_)
  refine lv_ior hx hb dX4_joinAt_15 ?_
  refine lv_topi (fun z4 _ => ?_)
  refine va_iast hx hb hK hP hD hS 3 0 (f := na_quarrelsAt) rfl rfl (vp_in_nI (by omega) (by decide)) dX4_joinAt_16 (fun H locs hP hD hS => ?_)
  have hP : va_P D vwCl [(na 1, .inr (4, [.ref (na 4), .ref (na 5), .ref (na 6), .ref (na 7), .ref (na 8), .ref (na 9), .ref (na 10), .ref (na 11), .ref (na 12), .ref (na 13), .ref (na 14), .ref (na 15), .int (nI na_named), .int (nI na_houses), .int (nI na_quarrels), .int (nI na_cats), .int (nI na_grocers), .int na_gone, .int na_washes, .int na_goneCounts])), (na 7, .inl (kc 0, 8, .inl na_one)), (na 8, .inl (kc 0, 8, .inl na_other)), (na 10, .inl (kc 0, 8, .inl (upd na_quarrelsAt ((nI k1) : Int32).toNatClampNeg z4)))] H := hP
  have hD : va_D A [(na 1, .inr (4, [.ref (na 4), .ref (na 5), .ref (na 6), .ref (na 7), .ref (na 8), .ref (na 9), .ref (na 10), .ref (na 11), .ref (na 12), .ref (na 13), .ref (na 14), .ref (na 15), .int (nI na_named), .int (nI na_houses), .int (nI na_quarrels), .int (nI na_cats), .int (nI na_grocers), .int na_gone, .int na_washes, .int na_goneCounts])), (na 7, .inl (kc 0, 8, .inl na_one)), (na 8, .inl (kc 0, 8, .inl na_other)), (na 10, .inl (kc 0, 8, .inl (upd na_quarrelsAt ((nI k1) : Int32).toNatClampNeg z4)))] := hD
  generalize (upd na_quarrelsAt ((nI k1) : Int32).toNatClampNeg z4) = f5 at hP hD
  refine lv_aload_n hx hb dX4_joinAt_17 rfl (lv_at hl 0 rfl) ?_
  refine va_get (D := D) (ci := 4) (v := .ref (na 10)) (C := RX4) (T := TX4) (N := 20) hx hb hts is_joinAt_X4 hown hK hP 0 rfl rfl 6 (by decide) (hts (.fieldLink RX4 31 "SaltStreet$Plan" "quarrelsAt" "[I") (List.mem_of_getElem? (i := 1) rfl)) (fun _ h9 => h9) rfl dX4_joinAt_18 ?_
  refine lv_aload_n hx hb dX4_joinAt_21 rfl (lv_at hl 0 rfl) ?_
  refine va_get (D := D) (ci := 4) (v := .ref (na 8)) (C := RX4) (T := TX4) (N := 20) hx hb hts is_joinAt_X4 hown hK hP 0 rfl rfl 4 (by decide) (hts (.fieldLink RX4 25 "SaltStreet$Plan" "other" "[I") (List.mem_of_getElem? (i := 3) rfl)) (fun _ h9 => h9) rfl dX4_joinAt_22 ?_
  refine lv_iload_n hx hb dX4_joinAt_25 rfl (lv_at hl 1 rfl) ?_
  refine va_iald hx hb hK hP 2 0 (f := na_other) rfl rfl (vp_in_nI (by omega) (by decide)) dX4_joinAt_26 ?_
  obtain ⟨k6, h_k6, e_k6⟩ := h_na_other ((nI a0) : Int32).toNatClampNeg
  refine lv_ci (y := nI k6) e_k6 ?_
  refine lv_dup2_11 hx hb dX4_joinAt_27 rfl rfl ?_
  refine va_iald hx hb hK hP 3 0 (f := f5) rfl rfl (vp_in_nI (by omega) (by decide)) dX4_joinAt_28 ?_
  refine lv_topi (fun z7 _ => ?_)
  refine lv_iconst (v := 1) hx hb dX4_joinAt_29 (by decide) ?_
  refine lv_iload_n hx hb dX4_joinAt_30 rfl (lv_at hl 1 rfl) ?_
  refine lv_ishl hx hb dX4_joinAt_31 ?_
  refine lv_topi (fun z8 _ => ?_)
  refine lv_ior hx hb dX4_joinAt_32 ?_
  refine lv_topi (fun z9 _ => ?_)
  refine va_iast hx hb hK hP hD hS 3 0 (f := f5) rfl rfl (vp_in_nI (by omega) (by decide)) dX4_joinAt_33 (fun H locs hP hD hS => ?_)
  have hP : va_P D vwCl [(na 1, .inr (4, [.ref (na 4), .ref (na 5), .ref (na 6), .ref (na 7), .ref (na 8), .ref (na 9), .ref (na 10), .ref (na 11), .ref (na 12), .ref (na 13), .ref (na 14), .ref (na 15), .int (nI na_named), .int (nI na_houses), .int (nI na_quarrels), .int (nI na_cats), .int (nI na_grocers), .int na_gone, .int na_washes, .int na_goneCounts])), (na 7, .inl (kc 0, 8, .inl na_one)), (na 8, .inl (kc 0, 8, .inl na_other)), (na 10, .inl (kc 0, 8, .inl (upd f5 ((nI k6) : Int32).toNatClampNeg z9)))] H := hP
  have hD : va_D A [(na 1, .inr (4, [.ref (na 4), .ref (na 5), .ref (na 6), .ref (na 7), .ref (na 8), .ref (na 9), .ref (na 10), .ref (na 11), .ref (na 12), .ref (na 13), .ref (na 14), .ref (na 15), .int (nI na_named), .int (nI na_houses), .int (nI na_quarrels), .int (nI na_cats), .int (nI na_grocers), .int na_gone, .int na_washes, .int na_goneCounts])), (na 7, .inl (kc 0, 8, .inl na_one)), (na 8, .inl (kc 0, 8, .inl na_other)), (na 10, .inl (kc 0, 8, .inl (upd f5 ((nI k6) : Int32).toNatClampNeg z9)))] := hD
  generalize (upd f5 ((nI k6) : Int32).toNatClampNeg z9) = f10 at hP hD
  have hP9 := hP.sub (ws' := [(na 1, .inr (4, [.ref (na 4), .ref (na 5), .ref (na 6), .ref (na 7), .ref (na 8), .ref (na 9), .ref (na 10), .ref (na 11), .ref (na 12), .ref (na 13), .ref (na 14), .ref (na 15), .int (nI na_named), .int (nI na_houses), .int (nI na_quarrels), .int (nI na_cats), .int (nI na_grocers), .int na_gone, .int na_washes, .int na_goneCounts])), (na 7, .inl (kc 0, 8, .inl na_one)), (na 8, .inl (kc 0, 8, .inl na_other)), (na 10, .inl (kc 0, 8, .inl f10))]) [0, 1, 2, 3] rfl
  have hD9 := hD.sub (ws' := [(na 1, .inr (4, [.ref (na 4), .ref (na 5), .ref (na 6), .ref (na 7), .ref (na 8), .ref (na 9), .ref (na 10), .ref (na 11), .ref (na 12), .ref (na 13), .ref (na 14), .ref (na 15), .int (nI na_named), .int (nI na_houses), .int (nI na_quarrels), .int (nI na_cats), .int (nI na_grocers), .int na_gone, .int na_washes, .int na_goneCounts])), (na 7, .inl (kc 0, 8, .inl na_one)), (na 8, .inl (kc 0, 8, .inl na_other)), (na 10, .inl (kc 0, 8, .inl f10))]) [0, 1, 2, 3] (by decide) rfl
  exact W.vret hx hb hr (fun t9 ht hW => ⟨⟨(), rfl, trivial, f10, by rw [ht]; exact hP9, hD9⟩, hS.F ht⟩) hS.2.2 dX4_joinAt_34
theorem dX7_findName_0 : decode cX7_findName 0 = .ok (.aload_n 0, 1) := by decide +kernel
theorem dX7_findName_1 : decode cX7_findName 1 = .ok (.getfield 40, 3) := by decide +kernel
theorem dX7_findName_4 : decode cX7_findName 4 = .ok (.iconst 1, 1) := by decide +kernel
theorem dX7_findName_5 : decode cX7_findName 5 = .ok (.if_icmp .eq 9, 3) := by decide +kernel
theorem dX7_findName_14 : decode cX7_findName 14 = .ok (.aload_n 0, 1) := by decide +kernel
theorem dX7_findName_15 : decode cX7_findName 15 = .ok (.aload_n 1, 1) := by decide +kernel
theorem dX7_findName_16 : decode cX7_findName 16 = .ok (.aload_n 0, 1) := by decide +kernel
theorem dX7_findName_17 : decode cX7_findName 17 = .ok (.getfield 50, 3) := by decide +kernel
theorem dX7_findName_20 : decode cX7_findName 20 = .ok (.iload_n 2, 1) := by decide +kernel
theorem dX7_findName_21 : decode cX7_findName 21 = .ok (.invokevirtual 95, 3) := by decide +kernel
theorem dX7_findName_24 : decode cX7_findName 24 = .ok (.putfield 92, 3) := by decide +kernel
theorem dX7_findName_27 : decode cX7_findName 27 = .ok (.aload_n 0, 1) := by decide +kernel
theorem dX7_findName_28 : decode cX7_findName 28 = .ok (.getfield 92, 3) := by decide +kernel
theorem dX7_findName_31 : decode cX7_findName 31 = .ok (.iconst (-1), 1) := by decide +kernel
theorem dX7_findName_32 : decode cX7_findName 32 = .ok (.if_icmp .ne 11, 3) := by decide +kernel
theorem dX7_findName_43 : decode cX7_findName 43 = .ok (.iconst 1, 1) := by decide +kernel
theorem dX7_findName_44 : decode cX7_findName 44 = .ok (.goto 4, 3) := by decide +kernel
theorem dX7_findName_48 : decode cX7_findName 48 = .ok (.ireturn, 1) := by decide +kernel
theorem dX7_findName_35 : decode cX7_findName 35 = .ok (.aload_n 0, 1) := by decide +kernel
theorem dX7_findName_36 : decode cX7_findName 36 = .ok (.iconst 3, 1) := by decide +kernel
theorem dX7_findName_37 : decode cX7_findName 37 = .ok (.invokevirtual 85, 3) := by decide +kernel
theorem dX7_findName_40 : decode cX7_findName 40 = .ok (.ifCond .eq 7, 3) := by decide +kernel
theorem dX7_findName_47 : decode cX7_findName 47 = .ok (.iconst 0, 1) := by decide +kernel
theorem dX7_findName_8 : decode cX7_findName 8 = .ok (.aload_n 0, 1) := by decide +kernel
theorem dX7_findName_9 : decode cX7_findName 9 = .ok (.iconst 2, 1) := by decide +kernel
theorem dX7_findName_10 : decode cX7_findName 10 = .ok (.invokevirtual 85, 3) := by decide +kernel
theorem dX7_findName_13 : decode cX7_findName 13 = .ok (.ireturn, 1) := by decide +kernel
def vds_findName : List Cond := [.code yX7_findName cX7_findName 3 (some .boolean), .fieldLink RX7 40 "SaltStreet$Tokens" "kind" "I", .fieldLink RX7 50 "SaltStreet$Tokens" "name" "J", .methodLink RX7 95 yX4_numberOf, .code yX4_numberOf cX4_numberOf 5 (some .int), .fieldLink RX4 57 "SaltStreet$Plan" "named" "I", .fieldLink RX4 9 "SaltStreet$Plan" "names" "[J", .fieldLink RX4 15 "SaltStreet$Plan" "sorts" "[I", .fieldLink RX4 19 "SaltStreet$Plan" "numbers" "[I", .instanceMethod yX4_numberOf, .selects RX4 yX4_numberOf yX4_numberOf, .initialized RX4, .fieldLink RX7 92 "SaltStreet$Tokens" "taken" "I", .methodLink RX7 85 yX7_wrong, .code yX7_wrong cX7_wrong 2 (some .boolean), .fieldLink RX7 31 "SaltStreet$Tokens" "fault" "I", .fieldLink RX7 37 "SaltStreet$Tokens" "start" "I", .fieldLink RX7 9 "SaltStreet$Tokens" "place" "I", .instanceMethod yX7_wrong, .selects RX7 yX7_wrong yX7_wrong, .initialized RX7]
def vs_findName : List Cond := vds_findName ++ (wsX70 ++ (wsX40 ++ ([] : List Cond)))
theorem is_findName_X7 : ∀ w ∈ wsX70, w ∈ vs_findName := fun _ h => List.mem_append_right _ (List.mem_append_left _ h)
theorem is_findName_X4 : ∀ w ∈ wsX40, w ∈ vs_findName := fun _ h => List.mem_append_right _ (List.mem_append_right _ (List.mem_append_left _ h))
set_option maxRecDepth 20000 in
theorem gs_findName_95_s_numberOf : GoodIn vs_findName (wsV RX7 95 RX4 yX4_numberOf vs_numberOf) := (goodIn_app (goodIn_r _ [3, 9, 10, 11] rfl (by decide +kernel)) (goodIn_app (goodIn_r vds_numberOf [4, 5, 6, 7, 8] rfl (by decide +kernel)) (goodIn_app (goodIn_sub is_findName_X4 gdX4) goodIn_nil)))
set_option maxRecDepth 20000 in
theorem gs_findName_85_s_wrong : GoodIn vs_findName (wsV RX7 85 RX7 yX7_wrong vs_wrong) := (goodIn_app (goodIn_r _ [13, 18, 19, 20] rfl (by decide +kernel)) (goodIn_app (goodIn_r vds_wrong [14, 1, 15, 16, 17] rfl (by decide +kernel)) (goodIn_app (goodIn_sub is_findName_X7 gdX7) goodIn_nil)))
set_option maxHeartbeats 4000000 in
set_option maxRecDepth 100000 in
theorem s_findName (l : Launch) (D : va_G) (kc : Nat → ClassId) (sz : Nat) (xa : Nat → Nat) (na : Nat → Nat) (tk_length : Nat) (tk_next : Nat) (tk_kind : Int32) (tk_start : Int32) (tk_number : Int32) (tk_name : Int64) (tk_taken : Int32) (tk_fault : Int32) (tk_place : Int32) (na_named : Nat) (na_houses : Nat) (na_quarrels : Nat) (na_cats : Nat) (na_grocers : Nat) (na_gone : Int32) (na_washes : Int32) (na_goneCounts : Int32) (na_names : Nat → Int64) (na_sorts : Nat → Int32) (na_numbers : Nat → Int32) (a0 : Int32) (h_tk_length : tk_length ≤ 900) (h_tk_next : tk_next ≤ 900) (h_na_named : na_named ≤ 24) (h_na_houses : na_houses ≤ 8) (h_na_quarrels : na_quarrels ≤ 8) (h_na_cats : na_cats ≤ 4) (h_na_grocers : na_grocers ≤ 4) (h_na_goneCounts : na_goneCounts = 0 ∨ na_goneCounts = 1) (h_na_numbers : R8 na_numbers) : Met l yX7_findName vs_findName ({ frames := 1, cells := 0, slots := 0, locals := 24 }) (va_Pc [.ref (xa 7), .ref (na 1), .int a0] (wPre D kc [(xa 7, .inr (7, [.ref (xa 1), .int (nI tk_length), .int (nI tk_next), .int tk_kind, .int tk_start, .int tk_number, .long tk_name, .int tk_taken, .int tk_fault, .int tk_place])), (na 1, .inr (4, [.ref (na 4), .ref (na 5), .ref (na 6), .ref (na 7), .ref (na 8), .ref (na 9), .ref (na 10), .ref (na 11), .ref (na 12), .ref (na 13), .ref (na 14), .ref (na 15), .int (nI na_named), .int (nI na_houses), .int (nI na_quarrels), .int (nI na_cats), .int (nI na_grocers), .int na_gone, .int na_washes, .int na_goneCounts])), (na 4, .inl (kc 1, 24, .inr (.inl na_names))), (na 5, .inl (kc 0, 24, .inl na_sorts)), (na 6, .inl (kc 0, 24, .inl na_numbers))] sz)) (va_Qi (fun (r : Int32) (tk_taken_n : Int32) => ((r = 0 ∨ r = 1) ∧ (¬ r = 0 → ∃ k, k < 8 ∧ tk_taken_n = nI k))) (fun (tk_taken_n : Int32) (t9 : State) => ∃ tk_fault_n : Int32, ∃ tk_place_n : Int32, va_P D vwCl [(xa 7, .inr (7, [.ref (xa 1), .int (nI tk_length), .int (nI tk_next), .int tk_kind, .int tk_start, .int tk_number, .long tk_name, .int tk_taken_n, .int tk_fault_n, .int tk_place_n])), (na 1, .inr (4, [.ref (na 4), .ref (na 5), .ref (na 6), .ref (na 7), .ref (na 8), .ref (na 9), .ref (na 10), .ref (na 11), .ref (na 12), .ref (na 13), .ref (na 14), .ref (na 15), .int (nI na_named), .int (nI na_houses), .int (nI na_quarrels), .int (nI na_cats), .int (nI na_grocers), .int na_gone, .int na_washes, .int na_goneCounts])), (na 4, .inl (kc 1, 24, .inr (.inl na_names))), (na 5, .inl (kc 0, 24, .inl na_sorts)), (na 6, .inl (kc 0, 24, .inl na_numbers))] t9.heap ∧ va_D (va_A [(xa 7, .inr (7, [.ref (xa 1), .int (nI tk_length), .int (nI tk_next), .int tk_kind, .int tk_start, .int tk_number, .long tk_name, .int tk_taken, .int tk_fault, .int tk_place])), (na 1, .inr (4, [.ref (na 4), .ref (na 5), .ref (na 6), .ref (na 7), .ref (na 8), .ref (na 9), .ref (na 10), .ref (na 11), .ref (na 12), .ref (na 13), .ref (na 14), .ref (na 15), .int (nI na_named), .int (nI na_houses), .int (nI na_quarrels), .int (nI na_cats), .int (nI na_grocers), .int na_gone, .int na_washes, .int na_goneCounts])), (na 4, .inl (kc 1, 24, .inr (.inl na_names))), (na 5, .inl (kc 0, 24, .inl na_sorts)), (na 6, .inl (kc 0, 24, .inl na_numbers))] sz) [(xa 7, .inr (7, [.ref (xa 1), .int (nI tk_length), .int (nI tk_next), .int tk_kind, .int tk_start, .int tk_number, .long tk_name, .int tk_taken_n, .int tk_fault_n, .int tk_place_n])), (na 1, .inr (4, [.ref (na 4), .ref (na 5), .ref (na 6), .ref (na 7), .ref (na 8), .ref (na 9), .ref (na 10), .ref (na 11), .ref (na 12), .ref (na 13), .ref (na 14), .ref (na 15), .int (nI na_named), .int (nI na_houses), .int (nI na_quarrels), .int (nI na_cats), .int (nI na_grocers), .int na_gone, .int na_washes, .int na_goneCounts])), (na 4, .inl (kc 1, 24, .inr (.inl na_names))), (na 5, .inl (kc 0, 24, .inl na_sorts)), (na 6, .inl (kc 0, 24, .inl na_numbers))]) (va_A [(xa 7, .inr (7, [.ref (xa 1), .int (nI tk_length), .int (nI tk_next), .int tk_kind, .int tk_start, .int tk_number, .long tk_name, .int tk_taken, .int tk_fault, .int tk_place])), (na 1, .inr (4, [.ref (na 4), .ref (na 5), .ref (na 6), .ref (na 7), .ref (na 8), .ref (na 9), .ref (na 10), .ref (na 11), .ref (na 12), .ref (na 13), .ref (na 14), .ref (na 15), .int (nI na_named), .int (nI na_houses), .int (nI na_quarrels), .int (nI na_cats), .int (nI na_grocers), .int na_gone, .int na_washes, .int na_goneCounts])), (na 4, .inl (kc 1, 24, .inr (.inl na_names))), (na 5, .inl (kc 0, 24, .inl na_sorts)), (na 6, .inl (kc 0, 24, .inl na_numbers))] sz)) 0 0 (va_A [(xa 7, .inr (7, [.ref (xa 1), .int (nI tk_length), .int (nI tk_next), .int tk_kind, .int tk_start, .int tk_number, .long tk_name, .int tk_taken, .int tk_fault, .int tk_place])), (na 1, .inr (4, [.ref (na 4), .ref (na 5), .ref (na 6), .ref (na 7), .ref (na 8), .ref (na 9), .ref (na 10), .ref (na 11), .ref (na 12), .ref (na 13), .ref (na 14), .ref (na 15), .int (nI na_named), .int (nI na_houses), .int (nI na_quarrels), .int (nI na_cats), .int (nI na_grocers), .int na_gone, .int na_washes, .int na_goneCounts])), (na 4, .inl (kc 1, 24, .inr (.inl na_names))), (na 5, .inl (kc 0, 24, .inl na_sorts)), (na 6, .inl (kc 0, 24, .inl na_numbers))] sz) := by
  refine Met.ofW (cc := cX7_findName) (maxL := 3) (ret := (some .boolean)) (by decide) rfl ?_
  intro p e s m args below meth c s₁ B hml hv
  obtain ⟨rfl, hsz, hP, hE, hD0⟩ := hv
  have hx := B.exec
  have hb := B.bytes
  have hr := B.returns
  have hts := atoms_spec (ws := vs_findName) B.pre
  have hown : s.vm.findClass RX7 = some m.cls := findClass_of_methodNamed B.named
  have hlocks := B.notSynchronized
  subst hsz
  have hD := hD0.self (sz := s.heap.size)
  generalize hAe : va_A [(xa 7, .inr (7, [.ref (xa 1), .int (nI tk_length), .int (nI tk_next), .int tk_kind, .int tk_start, .int tk_number, .long tk_name, .int tk_taken, .int tk_fault, .int tk_place])), (na 1, .inr (4, [.ref (na 4), .ref (na 5), .ref (na 6), .ref (na 7), .ref (na 8), .ref (na 9), .ref (na 10), .ref (na 11), .ref (na 12), .ref (na 13), .ref (na 14), .ref (na 15), .int (nI na_named), .int (nI na_houses), .int (nI na_quarrels), .int (nI na_cats), .int (nI na_grocers), .int na_gone, .int na_washes, .int na_goneCounts])), (na 4, .inl (kc 1, 24, .inr (.inl na_names))), (na 5, .inl (kc 0, 24, .inl na_sorts)), (na 6, .inl (kc 0, 24, .inl na_numbers))] s.heap.size = A at hD ⊢
  have hA : ∀ q : Nat, s.heap.size ≤ q → A q := fun q h => by rw [← hAe]; exact Or.inr h
  have hS : va_S A s.heap s.heap [] := va_S.rf
  have hK := hE.1
  have hP : va_P D vwCl [(xa 7, .inr (7, [.ref (xa 1), .int (nI tk_length), .int (nI tk_next), .int tk_kind, .int tk_start, .int tk_number, .long tk_name, .int tk_taken, .int tk_fault, .int tk_place])), (na 1, .inr (4, [.ref (na 4), .ref (na 5), .ref (na 6), .ref (na 7), .ref (na 8), .ref (na 9), .ref (na 10), .ref (na 11), .ref (na 12), .ref (na 13), .ref (na 14), .ref (na 15), .int (nI na_named), .int (nI na_houses), .int (nI na_quarrels), .int (nI na_cats), .int (nI na_grocers), .int na_gone, .int na_washes, .int na_goneCounts])), (na 4, .inl (kc 1, 24, .inr (.inl na_names))), (na 5, .inl (kc 0, 24, .inl na_sorts)), (na 6, .inl (kc 0, 24, .inl na_numbers))] s.heap := hP
  have hl := lv_entry ([.ref (xa 7), .ref (na 1), .int a0]) (n := 3) (Nat.le_of_ble_eq_true rfl)
  rw [lg_entry_eq]
  generalize (lg_sl ([.ref (xa 7), .ref (na 1), .int a0]) ++ List.replicate (3 - (lg_sl ([.ref (xa 7), .ref (na 1), .int a0])).length) Slot.unset).toArray = ls at hl ⊢
  have hl : lv_has ls 3 [(0, .ref (xa 7)), (1, .ref (na 1)), (2, .int a0)] := hl
  refine lv_aload_n hx hb dX7_findName_0 rfl (lv_at hl 0 rfl) ?_
  refine va_get (D := D) (ci := 7) (v := .int tk_kind) (C := RX7) (T := TX7) (N := 10) hx hb hts is_findName_X7 hown hK hP 0 rfl rfl 3 (by decide) (hts (.fieldLink RX7 40 "SaltStreet$Tokens" "kind" "I") (List.mem_of_getElem? (i := 1) rfl)) (fun _ h9 => h9) rfl dX7_findName_1 ?_
  refine lv_iconst (v := 1) hx hb dX7_findName_4 (by decide) ?_
  refine lv_icmp_eq (tgt := 14) hx hb dX7_findName_5 (by decide) (fun c1 => ?_) (fun c1 => ?_)
  · refine lv_aload_n hx hb dX7_findName_14 rfl (lv_at hl 0 rfl) ?_
    refine lv_aload_n hx hb dX7_findName_15 rfl (lv_at hl 1 rfl) ?_
    refine lv_aload_n hx hb dX7_findName_16 rfl (lv_at hl 0 rfl) ?_
    refine va_get (D := D) (ci := 7) (v := .long tk_name) (C := RX7) (T := TX7) (N := 10) hx hb hts is_findName_X7 hown hK hP 0 rfl rfl 6 (by decide) (hts (.fieldLink RX7 50 "SaltStreet$Tokens" "name" "J") (List.mem_of_getElem? (i := 2) rfl)) (fun _ h9 => h9) rfl dX7_findName_17 ?_
    refine lv_iload_n hx hb dX7_findName_20 rfl (lv_at hl 2 rfl) ?_
    have hPc := hP.sub (ws' := [(na 1, .inr (4, [.ref (na 4), .ref (na 5), .ref (na 6), .ref (na 7), .ref (na 8), .ref (na 9), .ref (na 10), .ref (na 11), .ref (na 12), .ref (na 13), .ref (na 14), .ref (na 15), .int (nI na_named), .int (nI na_houses), .int (nI na_quarrels), .int (nI na_cats), .int (nI na_grocers), .int na_gone, .int na_washes, .int na_goneCounts])), (na 4, .inl (kc 1, 24, .inr (.inl na_names))), (na 5, .inl (kc 0, 24, .inl na_sorts)), (na 6, .inl (kc 0, 24, .inl na_numbers))]) [1, 2, 3, 4] rfl
    have hDc := hD.sub (ws' := [(na 1, .inr (4, [.ref (na 4), .ref (na 5), .ref (na 6), .ref (na 7), .ref (na 8), .ref (na 9), .ref (na 10), .ref (na 11), .ref (na 12), .ref (na 13), .ref (na 14), .ref (na 15), .int (nI na_named), .int (nI na_houses), .int (nI na_quarrels), .int (nI na_cats), .int (nI na_grocers), .int na_gone, .int na_washes, .int na_goneCounts])), (na 4, .inl (kc 1, 24, .inr (.inl na_names))), (na 5, .inl (kc 0, 24, .inl na_sorts)), (na 6, .inl (kc 0, 24, .inl na_numbers))]) [1, 2, 3, 4] (by decide) rfl
    have hFc := va_free (wc := [(na 1, .inr (4, [.ref (na 4), .ref (na 5), .ref (na 6), .ref (na 7), .ref (na 8), .ref (na 9), .ref (na 10), .ref (na 11), .ref (na 12), .ref (na 13), .ref (na 14), .ref (na 15), .int (nI na_named), .int (nI na_houses), .int (nI na_quarrels), .int (nI na_cats), .int (nI na_grocers), .int na_gone, .int na_washes, .int na_goneCounts])), (na 4, .inl (kc 1, 24, .inr (.inl na_names))), (na 5, .inl (kc 0, 24, .inl na_sorts)), (na 6, .inl (kc 0, 24, .inl na_numbers))]) hD hS hA [1, 2, 3, 4] rfl
    refine va_calli (va_runV (As := [.long tk_name, .int a0]) (rest := [.ref (xa 7)]) ⟨hx, hb, hml, hown, hts⟩ (s_numberOf l D kc s.heap.size na na_named na_houses na_quarrels na_cats na_grocers na_gone na_washes na_goneCounts na_names na_sorts na_numbers tk_name a0 (by omega) (by omega) (by omega) (by omega) (by omega) h_na_goneCounts h_na_numbers) (cwV 2 hts gs_findName_95_s_numberOf rfl rfl rfl (by decide +kernel) ⟨Nat.le_of_ble_eq_true rfl, Nat.le_of_ble_eq_true rfl⟩) (preV_ok hPc hDc hE (ci := 4) (q0 := 0) rfl rfl) rfl rfl hl.1 rfl (lv_room (Nat.le_of_ble_eq_true rfl)) dX7_findName_21 ⟨Nat.le_of_ble_eq_true rfl, Nat.le_of_ble_eq_true rfl⟩) hS (fun q _ h => hFc q h) hFc (fun r2 u9 t9 H locs ht hvm hw hB hz1 hk1 hS => ?_)
    obtain ⟨hP1, hD1⟩ := hB
    rw [ht] at hP1
    obtain ⟨hP, hD⟩ := va_join (wr := [(xa 7, .inr (7, [.ref (xa 1), .int (nI tk_length), .int (nI tk_next), .int tk_kind, .int tk_start, .int tk_number, .long tk_name, .int tk_taken, .int tk_fault, .int tk_place]))]) (w1 := [(na 1, .inr (4, [.ref (na 4), .ref (na 5), .ref (na 6), .ref (na 7), .ref (na 8), .ref (na 9), .ref (na 10), .ref (na 11), .ref (na 12), .ref (na 13), .ref (na 14), .ref (na 15), .int (nI na_named), .int (nI na_houses), .int (nI na_quarrels), .int (nI na_cats), .int (nI na_grocers), .int na_gone, .int na_washes, .int na_goneCounts])), (na 4, .inl (kc 1, 24, .inr (.inl na_names))), (na 5, .inl (kc 0, 24, .inl na_sorts)), (na 6, .inl (kc 0, 24, .inl na_numbers))]) hP hD [1, 2, 3, 4] [0] rfl rfl (by decide) (by decide) hk1 hFc hP1 hD1
    have hP : va_P D vwCl [(xa 7, .inr (7, [.ref (xa 1), .int (nI tk_length), .int (nI tk_next), .int tk_kind, .int tk_start, .int tk_number, .long tk_name, .int tk_taken, .int tk_fault, .int tk_place])), (na 1, .inr (4, [.ref (na 4), .ref (na 5), .ref (na 6), .ref (na 7), .ref (na 8), .ref (na 9), .ref (na 10), .ref (na 11), .ref (na 12), .ref (na 13), .ref (na 14), .ref (na 15), .int (nI na_named), .int (nI na_houses), .int (nI na_quarrels), .int (nI na_cats), .int (nI na_grocers), .int na_gone, .int na_washes, .int na_goneCounts])), (na 4, .inl (kc 1, 24, .inr (.inl na_names))), (na 5, .inl (kc 0, 24, .inl na_sorts)), (na 6, .inl (kc 0, 24, .inl na_numbers))] H := hP
    have hD : va_D A [(xa 7, .inr (7, [.ref (xa 1), .int (nI tk_length), .int (nI tk_next), .int tk_kind, .int tk_start, .int tk_number, .long tk_name, .int tk_taken, .int tk_fault, .int tk_place])), (na 1, .inr (4, [.ref (na 4), .ref (na 5), .ref (na 6), .ref (na 7), .ref (na 8), .ref (na 9), .ref (na 10), .ref (na 11), .ref (na 12), .ref (na 13), .ref (na 14), .ref (na 15), .int (nI na_named), .int (nI na_houses), .int (nI na_quarrels), .int (nI na_cats), .int (nI na_grocers), .int na_gone, .int na_washes, .int na_goneCounts])), (na 4, .inl (kc 1, 24, .inr (.inl na_names))), (na 5, .inl (kc 0, 24, .inl na_sorts)), (na 6, .inl (kc 0, 24, .inl na_numbers))] := hD
    have o_r2 := hw
    refine va_put (D := D) (ci := 7) (v := .int r2) (ty := .int) (C := RX7) (T := TX7) (N := 10) hx hb hts is_findName_X7 tyX7 tyX7_ok nmX7 hown hK hP hD hS 0 rfl rfl 7 (by decide) (hts (.fieldLink RX7 92 "SaltStreet$Tokens" "taken" "I") (List.mem_of_getElem? (i := 12) rfl)) (fun _ h9 => h9) rfl (by decide +kernel) rfl rfl (Nat.le_of_ble_eq_true rfl) dX7_findName_24 (fun H locs hP hD hS => ?_)
    have hP : va_P D vwCl [(xa 7, .inr (7, [.ref (xa 1), .int (nI tk_length), .int (nI tk_next), .int tk_kind, .int tk_start, .int tk_number, .long tk_name, .int r2, .int tk_fault, .int tk_place])), (na 1, .inr (4, [.ref (na 4), .ref (na 5), .ref (na 6), .ref (na 7), .ref (na 8), .ref (na 9), .ref (na 10), .ref (na 11), .ref (na 12), .ref (na 13), .ref (na 14), .ref (na 15), .int (nI na_named), .int (nI na_houses), .int (nI na_quarrels), .int (nI na_cats), .int (nI na_grocers), .int na_gone, .int na_washes, .int na_goneCounts])), (na 4, .inl (kc 1, 24, .inr (.inl na_names))), (na 5, .inl (kc 0, 24, .inl na_sorts)), (na 6, .inl (kc 0, 24, .inl na_numbers))] H := hP
    have hD : va_D A [(xa 7, .inr (7, [.ref (xa 1), .int (nI tk_length), .int (nI tk_next), .int tk_kind, .int tk_start, .int tk_number, .long tk_name, .int r2, .int tk_fault, .int tk_place])), (na 1, .inr (4, [.ref (na 4), .ref (na 5), .ref (na 6), .ref (na 7), .ref (na 8), .ref (na 9), .ref (na 10), .ref (na 11), .ref (na 12), .ref (na 13), .ref (na 14), .ref (na 15), .int (nI na_named), .int (nI na_houses), .int (nI na_quarrels), .int (nI na_cats), .int (nI na_grocers), .int na_gone, .int na_washes, .int na_goneCounts])), (na 4, .inl (kc 1, 24, .inr (.inl na_names))), (na 5, .inl (kc 0, 24, .inl na_sorts)), (na 6, .inl (kc 0, 24, .inl na_numbers))] := hD
    refine lv_aload_n hx hb dX7_findName_27 rfl (lv_at hl 0 rfl) ?_
    refine va_get (D := D) (ci := 7) (v := .int r2) (C := RX7) (T := TX7) (N := 10) hx hb hts is_findName_X7 hown hK hP 0 rfl rfl 7 (by decide) (hts (.fieldLink RX7 92 "SaltStreet$Tokens" "taken" "I") (List.mem_of_getElem? (i := 12) rfl)) (fun _ h9 => h9) rfl dX7_findName_28 ?_
    refine lv_iconst (v := (-1)) hx hb dX7_findName_31 (by decide) ?_
    refine lv_icmp_ne (tgt := 43) hx hb dX7_findName_32 (by decide) (fun c3 => ?_) (fun c3 => ?_)
    · obtain ⟨k4, h_k4, rfl⟩ := o_r2.resolve_left c3
      refine lv_iconst (v := 1) hx hb dX7_findName_43 (by decide) ?_
      refine lv_goto (tgt := 48) hx hb dX7_findName_44 (by decide) ?_
      have hP9 := hP.sub (ws' := [(xa 7, .inr (7, [.ref (xa 1), .int (nI tk_length), .int (nI tk_next), .int tk_kind, .int tk_start, .int tk_number, .long tk_name, .int (nI k4), .int tk_fault, .int tk_place])), (na 1, .inr (4, [.ref (na 4), .ref (na 5), .ref (na 6), .ref (na 7), .ref (na 8), .ref (na 9), .ref (na 10), .ref (na 11), .ref (na 12), .ref (na 13), .ref (na 14), .ref (na 15), .int (nI na_named), .int (nI na_houses), .int (nI na_quarrels), .int (nI na_cats), .int (nI na_grocers), .int na_gone, .int na_washes, .int na_goneCounts])), (na 4, .inl (kc 1, 24, .inr (.inl na_names))), (na 5, .inl (kc 0, 24, .inl na_sorts)), (na 6, .inl (kc 0, 24, .inl na_numbers))]) [0, 1, 2, 3, 4] rfl
      have hD9 := hD.sub (ws' := [(xa 7, .inr (7, [.ref (xa 1), .int (nI tk_length), .int (nI tk_next), .int tk_kind, .int tk_start, .int tk_number, .long tk_name, .int (nI k4), .int tk_fault, .int tk_place])), (na 1, .inr (4, [.ref (na 4), .ref (na 5), .ref (na 6), .ref (na 7), .ref (na 8), .ref (na 9), .ref (na 10), .ref (na 11), .ref (na 12), .ref (na 13), .ref (na 14), .ref (na 15), .int (nI na_named), .int (nI na_houses), .int (nI na_quarrels), .int (nI na_cats), .int (nI na_grocers), .int na_gone, .int na_washes, .int na_goneCounts])), (na 4, .inl (kc 1, 24, .inr (.inl na_names))), (na 5, .inl (kc 0, 24, .inl na_sorts)), (na 6, .inl (kc 0, 24, .inl na_numbers))]) [0, 1, 2, 3, 4] (by decide) rfl
      exact W.zret (v := 1) hx hb hr rfl (fun t9 ht hW => ⟨⟨1, (nI k4), rfl, ⟨Or.inr rfl, fun _ => ⟨k4, by omega, rfl⟩⟩, tk_fault, tk_place, by rw [ht]; exact hP9, hD9⟩, hS.F ht⟩) hS.2.2 dX7_findName_48
    · refine lv_aload_n hx hb dX7_findName_35 rfl (lv_at hl 0 rfl) ?_
      refine lv_iconst (v := 3) hx hb dX7_findName_36 (by decide) ?_
      have hPc := hP.sub (ws' := [(xa 7, .inr (7, [.ref (xa 1), .int (nI tk_length), .int (nI tk_next), .int tk_kind, .int tk_start, .int tk_number, .long tk_name, .int r2, .int tk_fault, .int tk_place]))]) [0] rfl
      have hDc := hD.sub (ws' := [(xa 7, .inr (7, [.ref (xa 1), .int (nI tk_length), .int (nI tk_next), .int tk_kind, .int tk_start, .int tk_number, .long tk_name, .int r2, .int tk_fault, .int tk_place]))]) [0] (by decide) rfl
      have hFc := va_free (wc := [(xa 7, .inr (7, [.ref (xa 1), .int (nI tk_length), .int (nI tk_next), .int tk_kind, .int tk_start, .int tk_number, .long tk_name, .int r2, .int tk_fault, .int tk_place]))]) hD hS hA [0] rfl
      refine va_calli (va_runV (As := [.int 3]) (rest := []) ⟨hx, hb, hml, hown, hts⟩ (s_wrong l D kc H.size xa tk_length tk_next tk_kind tk_start tk_number tk_name r2 tk_fault tk_place 3 (by omega) (by omega)) (cwV 1 hts gs_findName_85_s_wrong rfl rfl rfl (by decide +kernel) ⟨Nat.le_of_ble_eq_true rfl, Nat.le_of_ble_eq_true rfl⟩) (preV_ok hPc hDc hE (ci := 7) (q0 := 0) rfl rfl) rfl rfl hl.1 rfl (lv_room (Nat.le_of_ble_eq_true rfl)) dX7_findName_37 ⟨Nat.le_of_ble_eq_true rfl, Nat.le_of_ble_eq_true rfl⟩) hS (fun q _ h => hFc q h) hFc (fun r5 u9 t9 H locs ht hvm hw hB hz1 hk1 hS => ?_)
      obtain ⟨z6, z7, hP1, hD1⟩ := hB
      rw [ht] at hP1
      obtain ⟨hP, hD⟩ := va_join (wr := [(na 1, .inr (4, [.ref (na 4), .ref (na 5), .ref (na 6), .ref (na 7), .ref (na 8), .ref (na 9), .ref (na 10), .ref (na 11), .ref (na 12), .ref (na 13), .ref (na 14), .ref (na 15), .int (nI na_named), .int (nI na_houses), .int (nI na_quarrels), .int (nI na_cats), .int (nI na_grocers), .int na_gone, .int na_washes, .int na_goneCounts])), (na 4, .inl (kc 1, 24, .inr (.inl na_names))), (na 5, .inl (kc 0, 24, .inl na_sorts)), (na 6, .inl (kc 0, 24, .inl na_numbers))]) (w1 := [(xa 7, .inr (7, [.ref (xa 1), .int (nI tk_length), .int (nI tk_next), .int tk_kind, .int tk_start, .int tk_number, .long tk_name, .int r2, .int z6, .int z7]))]) hP hD [0] [1, 2, 3, 4] rfl rfl (by decide) (by decide) hk1 hFc hP1 hD1
      have hP : va_P D vwCl [(na 1, .inr (4, [.ref (na 4), .ref (na 5), .ref (na 6), .ref (na 7), .ref (na 8), .ref (na 9), .ref (na 10), .ref (na 11), .ref (na 12), .ref (na 13), .ref (na 14), .ref (na 15), .int (nI na_named), .int (nI na_houses), .int (nI na_quarrels), .int (nI na_cats), .int (nI na_grocers), .int na_gone, .int na_washes, .int na_goneCounts])), (na 4, .inl (kc 1, 24, .inr (.inl na_names))), (na 5, .inl (kc 0, 24, .inl na_sorts)), (na 6, .inl (kc 0, 24, .inl na_numbers)), (xa 7, .inr (7, [.ref (xa 1), .int (nI tk_length), .int (nI tk_next), .int tk_kind, .int tk_start, .int tk_number, .long tk_name, .int r2, .int z6, .int z7]))] H := hP
      have hD : va_D A [(na 1, .inr (4, [.ref (na 4), .ref (na 5), .ref (na 6), .ref (na 7), .ref (na 8), .ref (na 9), .ref (na 10), .ref (na 11), .ref (na 12), .ref (na 13), .ref (na 14), .ref (na 15), .int (nI na_named), .int (nI na_houses), .int (nI na_quarrels), .int (nI na_cats), .int (nI na_grocers), .int na_gone, .int na_washes, .int na_goneCounts])), (na 4, .inl (kc 1, 24, .inr (.inl na_names))), (na 5, .inl (kc 0, 24, .inl na_sorts)), (na 6, .inl (kc 0, 24, .inl na_numbers)), (xa 7, .inr (7, [.ref (xa 1), .int (nI tk_length), .int (nI tk_next), .int tk_kind, .int tk_start, .int tk_number, .long tk_name, .int r2, .int z6, .int z7]))] := hD
      obtain ⟨k8, h_k8, rfl⟩ := hw
      refine lv_if_eq (tgt := 47) hx hb dX7_findName_40 (by decide) (fun c9 => ?_) (fun c9 => ?_)
      · have nc9 := (nI_eq (a := k8) (b := 0) (by omega) (by omega)).mp c9
        refine lv_iconst (v := 0) hx hb dX7_findName_47 (by decide) ?_
        have hP9 := hP.sub (ws' := [(xa 7, .inr (7, [.ref (xa 1), .int (nI tk_length), .int (nI tk_next), .int tk_kind, .int tk_start, .int tk_number, .long tk_name, .int r2, .int z6, .int z7])), (na 1, .inr (4, [.ref (na 4), .ref (na 5), .ref (na 6), .ref (na 7), .ref (na 8), .ref (na 9), .ref (na 10), .ref (na 11), .ref (na 12), .ref (na 13), .ref (na 14), .ref (na 15), .int (nI na_named), .int (nI na_houses), .int (nI na_quarrels), .int (nI na_cats), .int (nI na_grocers), .int na_gone, .int na_washes, .int na_goneCounts])), (na 4, .inl (kc 1, 24, .inr (.inl na_names))), (na 5, .inl (kc 0, 24, .inl na_sorts)), (na 6, .inl (kc 0, 24, .inl na_numbers))]) [4, 0, 1, 2, 3] rfl
        have hD9 := hD.sub (ws' := [(xa 7, .inr (7, [.ref (xa 1), .int (nI tk_length), .int (nI tk_next), .int tk_kind, .int tk_start, .int tk_number, .long tk_name, .int r2, .int z6, .int z7])), (na 1, .inr (4, [.ref (na 4), .ref (na 5), .ref (na 6), .ref (na 7), .ref (na 8), .ref (na 9), .ref (na 10), .ref (na 11), .ref (na 12), .ref (na 13), .ref (na 14), .ref (na 15), .int (nI na_named), .int (nI na_houses), .int (nI na_quarrels), .int (nI na_cats), .int (nI na_grocers), .int na_gone, .int na_washes, .int na_goneCounts])), (na 4, .inl (kc 1, 24, .inr (.inl na_names))), (na 5, .inl (kc 0, 24, .inl na_sorts)), (na 6, .inl (kc 0, 24, .inl na_numbers))]) [4, 0, 1, 2, 3] (by decide) rfl
        exact W.zret (v := 0) hx hb hr rfl (fun t9 ht hW => ⟨⟨0, r2, rfl, ⟨Or.inl rfl, fun h => absurd rfl h⟩, z6, z7, by rw [ht]; exact hP9, hD9⟩, hS.F ht⟩) hS.2.2 dX7_findName_48
      · have nc9 : ¬ k8 = 0 := fun q => c9 ((nI_eq (a := k8) (b := 0) (by omega) (by omega)).mpr q)
        refine lv_iconst (v := 1) hx hb dX7_findName_43 (by decide) ?_
        refine lv_goto (tgt := 48) hx hb dX7_findName_44 (by decide) ?_
        have hP9 := hP.sub (ws' := [(xa 7, .inr (7, [.ref (xa 1), .int (nI tk_length), .int (nI tk_next), .int tk_kind, .int tk_start, .int tk_number, .long tk_name, .int r2, .int z6, .int z7])), (na 1, .inr (4, [.ref (na 4), .ref (na 5), .ref (na 6), .ref (na 7), .ref (na 8), .ref (na 9), .ref (na 10), .ref (na 11), .ref (na 12), .ref (na 13), .ref (na 14), .ref (na 15), .int (nI na_named), .int (nI na_houses), .int (nI na_quarrels), .int (nI na_cats), .int (nI na_grocers), .int na_gone, .int na_washes, .int na_goneCounts])), (na 4, .inl (kc 1, 24, .inr (.inl na_names))), (na 5, .inl (kc 0, 24, .inl na_sorts)), (na 6, .inl (kc 0, 24, .inl na_numbers))]) [4, 0, 1, 2, 3] rfl
        have hD9 := hD.sub (ws' := [(xa 7, .inr (7, [.ref (xa 1), .int (nI tk_length), .int (nI tk_next), .int tk_kind, .int tk_start, .int tk_number, .long tk_name, .int r2, .int z6, .int z7])), (na 1, .inr (4, [.ref (na 4), .ref (na 5), .ref (na 6), .ref (na 7), .ref (na 8), .ref (na 9), .ref (na 10), .ref (na 11), .ref (na 12), .ref (na 13), .ref (na 14), .ref (na 15), .int (nI na_named), .int (nI na_houses), .int (nI na_quarrels), .int (nI na_cats), .int (nI na_grocers), .int na_gone, .int na_washes, .int na_goneCounts])), (na 4, .inl (kc 1, 24, .inr (.inl na_names))), (na 5, .inl (kc 0, 24, .inl na_sorts)), (na 6, .inl (kc 0, 24, .inl na_numbers))]) [4, 0, 1, 2, 3] (by decide) rfl
        exact W.zret (v := 1) hx hb hr rfl (fun t9 ht hW => ⟨⟨1, r2, rfl, (by exfalso; omega), z6, z7, by rw [ht]; exact hP9, hD9⟩, hS.F ht⟩) hS.2.2 dX7_findName_48
  · refine lv_aload_n hx hb dX7_findName_8 rfl (lv_at hl 0 rfl) ?_
    refine lv_iconst (v := 2) hx hb dX7_findName_9 (by decide) ?_
    have hPc := hP.sub (ws' := [(xa 7, .inr (7, [.ref (xa 1), .int (nI tk_length), .int (nI tk_next), .int tk_kind, .int tk_start, .int tk_number, .long tk_name, .int tk_taken, .int tk_fault, .int tk_place]))]) [0] rfl
    have hDc := hD.sub (ws' := [(xa 7, .inr (7, [.ref (xa 1), .int (nI tk_length), .int (nI tk_next), .int tk_kind, .int tk_start, .int tk_number, .long tk_name, .int tk_taken, .int tk_fault, .int tk_place]))]) [0] (by decide) rfl
    have hFc := va_free (wc := [(xa 7, .inr (7, [.ref (xa 1), .int (nI tk_length), .int (nI tk_next), .int tk_kind, .int tk_start, .int tk_number, .long tk_name, .int tk_taken, .int tk_fault, .int tk_place]))]) hD hS hA [0] rfl
    refine va_calli (va_runV (As := [.int 2]) (rest := []) ⟨hx, hb, hml, hown, hts⟩ (s_wrong l D kc s.heap.size xa tk_length tk_next tk_kind tk_start tk_number tk_name tk_taken tk_fault tk_place 2 (by omega) (by omega)) (cwV 1 hts gs_findName_85_s_wrong rfl rfl rfl (by decide +kernel) ⟨Nat.le_of_ble_eq_true rfl, Nat.le_of_ble_eq_true rfl⟩) (preV_ok hPc hDc hE (ci := 7) (q0 := 0) rfl rfl) rfl rfl hl.1 rfl (lv_room (Nat.le_of_ble_eq_true rfl)) dX7_findName_10 ⟨Nat.le_of_ble_eq_true rfl, Nat.le_of_ble_eq_true rfl⟩) hS (fun q _ h => hFc q h) hFc (fun r10 u9 t9 H locs ht hvm hw hB hz1 hk1 hS => ?_)
    obtain ⟨z11, z12, hP1, hD1⟩ := hB
    rw [ht] at hP1
    obtain ⟨hP, hD⟩ := va_join (wr := [(na 1, .inr (4, [.ref (na 4), .ref (na 5), .ref (na 6), .ref (na 7), .ref (na 8), .ref (na 9), .ref (na 10), .ref (na 11), .ref (na 12), .ref (na 13), .ref (na 14), .ref (na 15), .int (nI na_named), .int (nI na_houses), .int (nI na_quarrels), .int (nI na_cats), .int (nI na_grocers), .int na_gone, .int na_washes, .int na_goneCounts])), (na 4, .inl (kc 1, 24, .inr (.inl na_names))), (na 5, .inl (kc 0, 24, .inl na_sorts)), (na 6, .inl (kc 0, 24, .inl na_numbers))]) (w1 := [(xa 7, .inr (7, [.ref (xa 1), .int (nI tk_length), .int (nI tk_next), .int tk_kind, .int tk_start, .int tk_number, .long tk_name, .int tk_taken, .int z11, .int z12]))]) hP hD [0] [1, 2, 3, 4] rfl rfl (by decide) (by decide) hk1 hFc hP1 hD1
    have hP : va_P D vwCl [(na 1, .inr (4, [.ref (na 4), .ref (na 5), .ref (na 6), .ref (na 7), .ref (na 8), .ref (na 9), .ref (na 10), .ref (na 11), .ref (na 12), .ref (na 13), .ref (na 14), .ref (na 15), .int (nI na_named), .int (nI na_houses), .int (nI na_quarrels), .int (nI na_cats), .int (nI na_grocers), .int na_gone, .int na_washes, .int na_goneCounts])), (na 4, .inl (kc 1, 24, .inr (.inl na_names))), (na 5, .inl (kc 0, 24, .inl na_sorts)), (na 6, .inl (kc 0, 24, .inl na_numbers)), (xa 7, .inr (7, [.ref (xa 1), .int (nI tk_length), .int (nI tk_next), .int tk_kind, .int tk_start, .int tk_number, .long tk_name, .int tk_taken, .int z11, .int z12]))] H := hP
    have hD : va_D A [(na 1, .inr (4, [.ref (na 4), .ref (na 5), .ref (na 6), .ref (na 7), .ref (na 8), .ref (na 9), .ref (na 10), .ref (na 11), .ref (na 12), .ref (na 13), .ref (na 14), .ref (na 15), .int (nI na_named), .int (nI na_houses), .int (nI na_quarrels), .int (nI na_cats), .int (nI na_grocers), .int na_gone, .int na_washes, .int na_goneCounts])), (na 4, .inl (kc 1, 24, .inr (.inl na_names))), (na 5, .inl (kc 0, 24, .inl na_sorts)), (na 6, .inl (kc 0, 24, .inl na_numbers)), (xa 7, .inr (7, [.ref (xa 1), .int (nI tk_length), .int (nI tk_next), .int tk_kind, .int tk_start, .int tk_number, .long tk_name, .int tk_taken, .int z11, .int z12]))] := hD
    obtain ⟨k13, h_k13, rfl⟩ := hw
    have hP9 := hP.sub (ws' := [(xa 7, .inr (7, [.ref (xa 1), .int (nI tk_length), .int (nI tk_next), .int tk_kind, .int tk_start, .int tk_number, .long tk_name, .int tk_taken, .int z11, .int z12])), (na 1, .inr (4, [.ref (na 4), .ref (na 5), .ref (na 6), .ref (na 7), .ref (na 8), .ref (na 9), .ref (na 10), .ref (na 11), .ref (na 12), .ref (na 13), .ref (na 14), .ref (na 15), .int (nI na_named), .int (nI na_houses), .int (nI na_quarrels), .int (nI na_cats), .int (nI na_grocers), .int na_gone, .int na_washes, .int na_goneCounts])), (na 4, .inl (kc 1, 24, .inr (.inl na_names))), (na 5, .inl (kc 0, 24, .inl na_sorts)), (na 6, .inl (kc 0, 24, .inl na_numbers))]) [4, 0, 1, 2, 3] rfl
    have hD9 := hD.sub (ws' := [(xa 7, .inr (7, [.ref (xa 1), .int (nI tk_length), .int (nI tk_next), .int tk_kind, .int tk_start, .int tk_number, .long tk_name, .int tk_taken, .int z11, .int z12])), (na 1, .inr (4, [.ref (na 4), .ref (na 5), .ref (na 6), .ref (na 7), .ref (na 8), .ref (na 9), .ref (na 10), .ref (na 11), .ref (na 12), .ref (na 13), .ref (na 14), .ref (na 15), .int (nI na_named), .int (nI na_houses), .int (nI na_quarrels), .int (nI na_cats), .int (nI na_grocers), .int na_gone, .int na_washes, .int na_goneCounts])), (na 4, .inl (kc 1, 24, .inr (.inl na_names))), (na 5, .inl (kc 0, 24, .inl na_sorts)), (na 6, .inl (kc 0, 24, .inl na_numbers))]) [4, 0, 1, 2, 3] (by decide) rfl
    exact W.zret (v := (nI k13)) hx hb hr (nar_b (nat01 (by omega))) (fun t9 ht hW => ⟨⟨(nI k13), tk_taken, rfl, ⟨nat01 (by omega), fun h => absurd (by rw [show k13 = 0 by omega]; rfl) h⟩, z11, z12, by rw [ht]; exact hP9, hD9⟩, hS.F ht⟩) hS.2.2 dX7_findName_13
